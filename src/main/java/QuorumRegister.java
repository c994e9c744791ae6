/** A register kept by five replicas, for three clients, over a network that may do anything to messages but change them. */
public final class QuorumRegister {
  private static final int REPLICAS = 5;
  private static final int CLIENTS = 3;
  private static final int QUORUM = 3;
  private static final int MOST_FAILED = REPLICAS - QUORUM;

  private static final int IDLE = 0;
  private static final int ASKING = 1;
  private static final int STORING = 2;

  private static final int ASK = 0;
  private static final int TELL = 1;
  private static final int STORE = 2;
  private static final int STORED = 3;

  private static final int KIND = 0;
  private static final int CLIENT = 1;
  private static final int REPLICA = 2;
  private static final int SERIAL = 3;
  private static final int TAG = 4;
  private static final int VALUE = 5;
  private static final int MESSAGE_COLUMNS = 6;

  private static final int DONE_CLIENT = 0;
  private static final int DONE_SERIAL = 1;
  private static final int DONE_WROTE = 2;
  private static final int DONE_RESULT = 3;
  private static final int DONE_STAMP = 4;
  private static final int DONE_COLUMNS = 5;

  /** What a tag's number counts for in the tag; the rest is the client that made it. */
  private static final int TAG_STEP = 4;

  /** With more messages than this on their way, no operation begins and no message is repeated. */
  private static final int CROWD = 60;

  /**
   * The pool never outgrows this: one operation begins at CROWD at the latest, and from then on each client
   * can turn from asking to storing once, which takes one message out and puts one for each replica in.
   */
  private static final int MOST_MESSAGES = CROWD + REPLICAS + CLIENTS * (REPLICAS - 1);

  private static final int MOST_CALLS = 512;

  /** An operation is begun, and takes a quorum of each of the four kinds of message, one call for each. */
  private static final int CALLS_TO_FINISH = 1 + 4 * QUORUM;

  private static final int MOST_FINISHED = MOST_CALLS / CALLS_TO_FINISH;

  private final Replica[] replicas;
  private final Client[] clients;
  private final Rows pool;
  private final Rows done;

  public QuorumRegister() {
    replicas = new Replica[REPLICAS];
    for (int r = 0; r < REPLICAS; r++) {
      replicas[r] = new Replica();
    }
    clients = new Client[CLIENTS];
    for (int c = 0; c < CLIENTS; c++) {
      clients[c] = new Client();
    }
    pool = new Rows(MESSAGE_COLUMNS, MOST_MESSAGES);
    done = new Rows(DONE_COLUMNS, MOST_FINISHED);
  }

  public int write(int c, int v) {
    return begin(c, true, v);
  }

  public int read(int c) {
    return begin(c, false, 0);
  }

  public boolean leave(int c) {
    if (!isClient(c) || clients[c].phase == IDLE) {
      return false;
    }
    clients[c].enter(IDLE);
    return true;
  }

  public int deliver(int i) {
    if (!pool.has(i)) {
      return -1;
    }
    int kind = pool.cell(i, KIND);
    int c = pool.cell(i, CLIENT);
    int r = pool.cell(i, REPLICA);
    int serial = pool.cell(i, SERIAL);
    int tag = pool.cell(i, TAG);
    int value = pool.cell(i, VALUE);
    // No message is sent with others than these; they are looked at because they become indices below.
    if (!isClient(c) || !isReplica(r)) {
      return -1;
    }
    pool.remove(i);
    int left = pool.count;
    switch (kind) {
      case ASK:
        takeAsk(c, r, serial);
        break;
      case TELL:
        takeTell(c, r, serial, tag, value);
        break;
      case STORE:
        takeStore(c, r, serial, tag, value);
        break;
      default:
        takeStored(c, r, serial);
        break;
    }
    return pool.count - left;
  }

  public boolean lose(int i) {
    if (!pool.has(i)) {
      return false;
    }
    pool.remove(i);
    return true;
  }

  public boolean repeat(int i) {
    if (!pool.has(i) || isCrowded()) {
      return false;
    }
    pool.addCopy(i);
    return true;
  }

  public boolean fail(int r) {
    if (!isReplica(r) || replicas[r].failed || countFailed() >= MOST_FAILED) {
      return false;
    }
    replicas[r].failed = true;
    return true;
  }

  public int messages() {
    return pool.count;
  }

  public int message(int i, int what) {
    return pool.cell(i, what);
  }

  public int tag(int r) {
    return isReplica(r) ? replicas[r].tag : -1;
  }

  public int value(int r) {
    return isReplica(r) ? replicas[r].value : 0;
  }

  public boolean failed(int r) {
    return isReplica(r) && replicas[r].failed;
  }

  public int phase(int c) {
    return isClient(c) ? clients[c].phase : -1;
  }

  public int answered(int c) {
    return isClient(c) ? clients[c].answers : -1;
  }

  public int finished() {
    return done.count;
  }

  public int operation(int n, int what) {
    return done.cell(n, what);
  }

  private static boolean isClient(int c) {
    return c >= 0 && c < CLIENTS;
  }

  private static boolean isReplica(int r) {
    return r >= 0 && r < REPLICAS;
  }

  private boolean isCrowded() {
    return pool.count > CROWD;
  }

  private int countFailed() {
    int count = 0;
    for (int r = 0; r < REPLICAS; r++) {
      if (replicas[r].failed) {
        count++;
      }
    }
    return count;
  }

  private int begin(int c, boolean writes, int toWrite) {
    if (!isClient(c)) {
      return -1;
    }
    Client client = clients[c];
    if (client.phase != IDLE) {
      return -2;
    }
    if (isCrowded()) {
      return -3;
    }
    client.serial++;
    client.writes = writes;
    client.toWrite = toWrite;
    client.tag = 0;
    client.value = 0;
    client.enter(ASKING);
    sendToAll(ASK, c, 0, 0);
    return client.serial;
  }

  private void takeAsk(int c, int r, int serial) {
    Replica replica = replicas[r];
    if (replica.failed) {
      return;
    }
    send(TELL, c, r, serial, replica.tag, replica.value);
  }

  private void takeStore(int c, int r, int serial, int tag, int value) {
    Replica replica = replicas[r];
    if (replica.failed) {
      return;
    }
    if (tag > replica.tag) {
      replica.tag = tag;
      replica.value = value;
    }
    send(STORED, c, r, serial, 0, 0);
  }

  private void takeTell(int c, int r, int serial, int tag, int value) {
    Client client = clients[c];
    if (!client.awaits(ASKING, r, serial)) {
      return;
    }
    client.hear(r);
    if (tag > client.tag) {
      client.tag = tag;
      client.value = value;
    }
    if (client.hasQuorum()) {
      store(c);
    }
  }

  private void store(int c) {
    Client client = clients[c];
    if (client.writes) {
      int number = 1 + Math.max(client.tag / TAG_STEP, client.lastNumber);
      client.lastNumber = number;
      client.tag = TAG_STEP * number + c;
      client.value = client.toWrite;
    }
    client.enter(STORING);
    sendToAll(STORE, c, client.tag, client.value);
  }

  private void takeStored(int c, int r, int serial) {
    Client client = clients[c];
    if (!client.awaits(STORING, r, serial)) {
      return;
    }
    client.hear(r);
    if (client.hasQuorum()) {
      finish(c);
    }
  }

  private void finish(int c) {
    Client client = clients[c];
    int n = done.add();
    done.set(n, DONE_CLIENT, c);
    done.set(n, DONE_SERIAL, client.serial);
    done.set(n, DONE_WROTE, client.writes ? 1 : 0);
    done.set(n, DONE_RESULT, client.value);
    done.set(n, DONE_STAMP, client.tag);
    client.enter(IDLE);
  }

  private void sendToAll(int kind, int c, int tag, int value) {
    for (int r = 0; r < REPLICAS; r++) {
      send(kind, c, r, clients[c].serial, tag, value);
    }
  }

  private void send(int kind, int c, int r, int serial, int tag, int value) {
    int i = pool.add();
    pool.set(i, KIND, kind);
    pool.set(i, CLIENT, c);
    pool.set(i, REPLICA, r);
    pool.set(i, SERIAL, serial);
    pool.set(i, TAG, tag);
    pool.set(i, VALUE, value);
  }

  private static final class Replica {
    int tag;
    int value;
    boolean failed;
  }

  private static final class Client {
    int phase;
    int serial;
    boolean writes;
    int toWrite;
    /** Bit r for replica r; empty while the client is idle. */
    int answers;
    int tag;
    int value;
    /** Outlives the operation: a client that left its write must not make the same tag again. */
    int lastNumber;

    void enter(int next) {
      phase = next;
      answers = 0;
    }

    boolean awaits(int wanted, int r, int fromSerial) {
      return serial == fromSerial && phase == wanted && (answers & (1 << r)) == 0;
    }

    void hear(int r) {
      answers |= 1 << r;
    }

    boolean hasQuorum() {
      return Integer.bitCount(answers) >= QUORUM;
    }
  }

  /** Rows of ints, in the order in which they were added; made once, so that no later call makes an object. */
  private static final class Rows {
    final int width;
    final int most;
    final int[] cells;
    int count;

    Rows(int width, int most) {
      this.width = Math.max(width, 0);
      this.most = Math.max(most, 0);
      cells = new int[this.width * this.most];
    }

    boolean has(int i) {
      return i >= 0 && i < count;
    }

    boolean hasColumn(int column) {
      return column >= 0 && column < width;
    }

    int cell(int i, int column) {
      if (!has(i)) {
        return -1;
      }
      return hasColumn(column) ? cells[i * width + column] : 0;
    }

    /** The index of the new row; -1 if there is no room, which only calls after the last promised one can meet. */
    int add() {
      if (count >= most) {
        return -1;
      }
      count++;
      return count - 1;
    }

    void set(int i, int column, int x) {
      if (has(i) && hasColumn(column)) {
        cells[i * width + column] = x;
      }
    }

    void addCopy(int i) {
      if (!has(i)) {
        return;
      }
      int last = add();
      if (last >= 0) {
        System.arraycopy(cells, i * width, cells, last * width, width);
      }
    }

    void remove(int i) {
      if (!has(i)) {
        return;
      }
      int next = (i + 1) * width;
      System.arraycopy(cells, next, cells, i * width, count * width - next);
      count--;
    }
  }
}
