/** Steps that many tests take on their way to what they look at. */
final class Runs {
  static final int ASK = 0;
  static final int TELL = 1;
  static final int STORE = 2;
  static final int STORED = 3;

  /** Numbers that are no index of anything, whatever the state. */
  static final int[] NO_INDEX = {-1, -2, -5, 512, 1 << 29, 1 << 30, Integer.MAX_VALUE, Integer.MIN_VALUE, Integer.MIN_VALUE / 6};

  /** Too small for any index. */
  static final int[] TOO_SMALL = {-1, -2, -5, -64, -1000, Integer.MIN_VALUE / 6, Integer.MIN_VALUE / 5, Integer.MIN_VALUE + 1, Integer.MIN_VALUE};

  private Runs() {}

  /** Too large where n are counted from 0. */
  static int[] tooLarge(int n) {
    return new int[] {n, n + 1, n + 4, 100, 1000, 1 << 29, 1 << 30, Integer.MAX_VALUE - 1, Integer.MAX_VALUE};
  }

  /** Replicas 0, 1 and 2 carry the operation that was begun at this length of the pool; 4 messages to 3 and 4 stay. */
  static void carry(QuorumRegister x, int pool) {
    for (int first : new int[] {pool, pool + 2, pool + 2, pool + 4}) {
      for (int n = 0; n < 3; n++) {
        x.deliver(first);
      }
    }
  }

  /** The first message of that kind between client c and replica r in the pool; -1 if there is none. */
  static int find(QuorumRegister x, int kind, int c, int r) {
    int messages = x.messages();
    for (int i = 0; i < messages; i++) {
      if (x.message(i, 0) == kind && x.message(i, 1) == c && x.message(i, 2) == r) {
        return i;
      }
    }
    return -1;
  }

  /** Delivers the first such message: how many were sent because of that. */
  static int pass(QuorumRegister x, int kind, int c, int r) {
    return x.deliver(find(x, kind, c, r));
  }

  /** Client c asks, and is told by, these replicas. */
  static void ask(QuorumRegister x, int c, int... replicas) {
    for (int r : replicas) {
      pass(x, ASK, c, r);
      pass(x, TELL, c, r);
    }
  }

  /** Client c stores with, and hears from, these replicas. */
  static void store(QuorumRegister x, int c, int... replicas) {
    for (int r : replicas) {
      pass(x, STORE, c, r);
      pass(x, STORED, c, r);
    }
  }

  static void clear(QuorumRegister x) {
    boolean more = true;
    while (more) {
      more = x.lose(0);
    }
  }

  /** Repeats the first message until the pool holds n. */
  static void fill(QuorumRegister x, int n) {
    for (int more = n - x.messages(); more > 0; more--) {
      x.repeat(0);
    }
    Due.is("messages() when filled", x.messages(), n);
  }

  static void dueMessage(QuorumRegister x, int i, int... want) {
    for (int what = 0; what < want.length; what++) {
      Due.is("message(" + i + ", " + what + ")", x.message(i, what), want[what]);
    }
  }

  static void dueOperation(QuorumRegister x, int n, int... want) {
    for (int what = 0; what < want.length; what++) {
      Due.is("operation(" + n + ", " + what + ")", x.operation(n, what), want[what]);
    }
  }

  static void dueReplica(QuorumRegister x, int r, int tag, int value) {
    Due.is("tag(" + r + ")", x.tag(r), tag);
    Due.is("value(" + r + ")", x.value(r), value);
  }

  static void dueClient(QuorumRegister x, int c, int phase, int answered) {
    Due.is("phase(" + c + ")", x.phase(c), phase);
    Due.is("answered(" + c + ")", x.answered(c), answered);
  }
}
