import java.util.ArrayList;
import java.util.HashSet;
import java.util.List;
import java.util.Set;

/** The document, sentence by sentence, with the library's lists and sets: slow, and built otherwise than the class. */
final class Model {
  private static final class Message {
    final int kind;
    final int client;
    final int replica;
    final int serial;
    final int tag;
    final int value;

    Message(int kind, int client, int replica, int serial, int tag, int value) {
      this.kind = kind;
      this.client = client;
      this.replica = replica;
      this.serial = serial;
      this.tag = tag;
      this.value = value;
    }
  }

  private final int[] replicaTag = new int[5];
  private final int[] replicaValue = new int[5];
  private final Set<Integer> failed = new HashSet<>();
  private final int[] phase = new int[3];
  private final int[] serial = new int[3];
  private final boolean[] writes = new boolean[3];
  private final int[] toWrite = new int[3];
  private final List<Set<Integer>> answered = List.of(new HashSet<>(), new HashSet<>(), new HashSet<>());
  private final int[] tag = new int[3];
  private final int[] value = new int[3];
  private final List<List<Integer>> made = List.of(new ArrayList<>(), new ArrayList<>(), new ArrayList<>());
  private final List<Message> pool = new ArrayList<>();
  private final List<int[]> finished = new ArrayList<>();

  int write(int c, int v) {
    return begin(c, true, v);
  }

  int read(int c) {
    return begin(c, false, 0);
  }

  private int begin(int c, boolean w, int v) {
    if (c < 0 || c > 2) {
      return -1;
    }
    if (phase[c] != 0) {
      return -2;
    }
    if (pool.size() > 60) {
      return -3;
    }
    serial[c] += 1;
    phase[c] = 1;
    answered.get(c).clear();
    tag[c] = 0;
    value[c] = 0;
    writes[c] = w;
    toWrite[c] = v;
    for (int r = 0; r <= 4; r++) {
      pool.add(new Message(0, c, r, serial[c], 0, 0));
    }
    return serial[c];
  }

  boolean leave(int c) {
    if (c < 0 || c > 2 || phase[c] == 0) {
      return false;
    }
    phase[c] = 0;
    return true;
  }

  int deliver(int i) {
    if (i < 0 || i >= pool.size()) {
      return -1;
    }
    Message m = pool.remove(i);
    int before = pool.size();
    if (m.kind == 0 || m.kind == 2) {
      if (!failed.contains(m.replica)) {
        atReplica(m);
      }
    } else if (serial[m.client] == m.serial && phase[m.client] == (m.kind == 1 ? 1 : 2)
        && answered.get(m.client).add(m.replica)) {
      atClient(m);
    }
    return pool.size() - before;
  }

  private void atReplica(Message m) {
    int r = m.replica;
    if (m.kind == 0) {
      pool.add(new Message(1, m.client, r, m.serial, replicaTag[r], replicaValue[r]));
      return;
    }
    if (m.tag > replicaTag[r]) {
      replicaTag[r] = m.tag;
      replicaValue[r] = m.value;
    }
    pool.add(new Message(3, m.client, r, m.serial, 0, 0));
  }

  private void atClient(Message m) {
    int c = m.client;
    boolean three = answered.get(c).size() == 3;
    if (m.kind == 1 && m.tag > tag[c]) {
      tag[c] = m.tag;
      value[c] = m.value;
    }
    if (m.kind == 1 && three) {
      if (writes[c]) {
        List<Integer> own = made.get(c);
        int latest = own.isEmpty() ? 0 : own.get(own.size() - 1) >> 2;
        int n = 1 + Math.max(tag[c] >> 2, latest);
        tag[c] = 4 * n + c;
        own.add(tag[c]);
        value[c] = toWrite[c];
      }
      phase[c] = 2;
      answered.get(c).clear();
      for (int r = 0; r <= 4; r++) {
        pool.add(new Message(2, c, r, serial[c], tag[c], value[c]));
      }
    }
    if (m.kind == 3 && three) {
      phase[c] = 0;
      finished.add(new int[] {c, serial[c], writes[c] ? 1 : 0, value[c], tag[c]});
    }
  }

  boolean lose(int i) {
    if (i < 0 || i >= pool.size()) {
      return false;
    }
    pool.remove(i);
    return true;
  }

  boolean repeat(int i) {
    if (i < 0 || i >= pool.size() || pool.size() > 60) {
      return false;
    }
    pool.add(pool.get(i));
    return true;
  }

  boolean fail(int r) {
    return r >= 0 && r <= 4 && failed.size() < 2 && failed.add(r);
  }

  int messages() {
    return pool.size();
  }

  int message(int i, int what) {
    if (i < 0 || i >= pool.size()) {
      return -1;
    }
    Message m = pool.get(i);
    switch (what) {
      case 0: return m.kind;
      case 1: return m.client;
      case 2: return m.replica;
      case 3: return m.serial;
      case 4: return m.tag;
      case 5: return m.value;
      default: return 0;
    }
  }

  int tag(int r) {
    return r < 0 || r > 4 ? -1 : replicaTag[r];
  }

  int value(int r) {
    return r < 0 || r > 4 ? 0 : replicaValue[r];
  }

  boolean failed(int r) {
    return failed.contains(r);
  }

  int phase(int c) {
    return c < 0 || c > 2 ? -1 : phase[c];
  }

  int answered(int c) {
    if (c < 0 || c > 2) {
      return -1;
    }
    int set = 0;
    if (phase[c] != 0) {
      for (int r : answered.get(c)) {
        set += 1 << r;
      }
    }
    return set;
  }

  int finished() {
    return finished.size();
  }

  int operation(int n, int what) {
    if (n < 0 || n >= finished.size()) {
      return -1;
    }
    return what < 0 || what > 4 ? 0 : finished.get(n)[what];
  }
}
