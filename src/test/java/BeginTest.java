/** Promises 2 and 3: write and read. */
public final class BeginTest {
  public static void main(String[] args) {
    for (int c = 0; c < 3; c++) {
      begins(c, true);
      begins(c, false);
    }
    refusesNoClient();
    refusesBusyClient();
    refusesCrowd();
    firstRefusalHolds();
    refusedCallChangesNothing();
    writeStoresItsOwnValue();
    readStoresWhatItWasTold();
    beginForgetsTheLastOperation();
    serialsAreEachClientsOwn();
    Due.end();
  }

  private static int begin(QuorumRegister x, int c, boolean writes) {
    return writes ? x.write(c, 70 + c) : x.read(c);
  }

  private static void begins(int c, boolean writes) {
    QuorumRegister x = new QuorumRegister();
    Due.is("begin by " + c, begin(x, c, writes), 1);
    Due.is("messages()", x.messages(), 5);
    for (int r = 0; r < 5; r++) {
      Runs.dueMessage(x, r, Runs.ASK, c, r, 1, 0, 0);
    }
    for (int other = 0; other < 3; other++) {
      Runs.dueClient(x, other, other == c ? 1 : 0, 0);
    }
    Due.is("finished()", x.finished(), 0);
  }

  private static void refusesNoClient() {
    QuorumRegister x = new QuorumRegister();
    Due.is("write(3, 1)", x.write(3, 1), -1);
    Due.is("read(3)", x.read(3), -1);
    for (int c : Runs.NO_INDEX) {
      Due.is("write(" + c + ", 1)", x.write(c, 1), -1);
      Due.is("read(" + c + ")", x.read(c), -1);
    }
    Due.is("messages()", x.messages(), 0);
  }

  private static void refusesBusyClient() {
    QuorumRegister x = new QuorumRegister();
    x.write(0, 1);
    Due.is("write(0, 2) while asking", x.write(0, 2), -2);
    Due.is("read(0) while asking", x.read(0), -2);
    Runs.ask(x, 0, 0, 1, 2);
    Due.is("phase(0)", x.phase(0), 2);
    Due.is("write(0, 2) while storing", x.write(0, 2), -2);
    Due.is("read(0) while storing", x.read(0), -2);
    Runs.store(x, 0, 0, 1, 2);
    Due.is("read(0) after it", x.read(0), 2);
  }

  private static void refusesCrowd() {
    for (int n = 59; n <= 61; n++) {
      QuorumRegister x = new QuorumRegister();
      x.read(0);
      Runs.fill(x, n);
      Due.is("write(1, 1) at " + n, x.write(1, 1), n > 60 ? -3 : 1);
      Due.is("messages()", x.messages(), n > 60 ? n : n + 5);
      Runs.clear(x);
      x.leave(0);
      x.read(0);
      Runs.fill(x, n);
      Due.is("read(2) at " + n, x.read(2), n > 60 ? -3 : 1);
      Due.is("messages()", x.messages(), n > 60 ? n : n + 5);
    }
  }

  private static void firstRefusalHolds() {
    QuorumRegister x = new QuorumRegister();
    x.read(0);
    Runs.fill(x, 61);
    Due.is("write(3, 1), crowded", x.write(3, 1), -1);
    Due.is("read(-1), crowded", x.read(-1), -1);
    Due.is("write(0, 1), busy and crowded", x.write(0, 1), -2);
    Due.is("read(0), busy and crowded", x.read(0), -2);
    Due.is("write(1, 1), crowded", x.write(1, 1), -3);
    Due.is("read(1), crowded", x.read(1), -3);
  }

  private static void refusedCallChangesNothing() {
    QuorumRegister x = new QuorumRegister();
    x.write(0, 7);
    Runs.ask(x, 0, 3);
    x.write(0, 8);
    x.read(0);
    Runs.dueClient(x, 0, 1, 8);
    Due.is("messages()", x.messages(), 4);
    Runs.ask(x, 0, 1, 2);
    Runs.store(x, 0, 1, 2, 3);
    Runs.dueOperation(x, 0, 0, 1, 1, 7, 4);
    x.read(1);
    Runs.fill(x, 61);
    x.write(0, 9);
    x.read(0);
    Runs.dueClient(x, 0, 0, 0);
    Runs.clear(x);
    Due.is("read(0) after refusals", x.read(0), 2);
  }

  private static void writeStoresItsOwnValue() {
    for (int v : new int[] {0, 1, -1, 60, Integer.MAX_VALUE, Integer.MIN_VALUE}) {
      QuorumRegister x = new QuorumRegister();
      x.write(2, v);
      Runs.ask(x, 2, 4, 3, 0);
      Runs.store(x, 2, 4, 3, 0);
      Runs.dueOperation(x, 0, 2, 1, 1, v, 6);
      Runs.dueReplica(x, 3, 6, v);
      Runs.dueReplica(x, 1, 0, 0);
    }
  }

  private static void readStoresWhatItWasTold() {
    QuorumRegister x = new QuorumRegister();
    x.write(1, -9);
    Runs.ask(x, 1, 0, 1, 2);
    Runs.pass(x, Runs.STORE, 1, 4);
    Runs.clear(x);
    Due.is("read(0)", x.read(0), 1);
    Runs.ask(x, 0, 4, 0, 1);
    for (int r = 0; r < 5; r++) {
      int i = Runs.find(x, Runs.STORE, 0, r);
      Runs.dueMessage(x, i, Runs.STORE, 0, r, 1, 5, -9);
    }
    Runs.store(x, 0, 0, 1, 2);
    Runs.dueOperation(x, 0, 0, 1, 0, -9, 5);
    Runs.dueReplica(x, 2, 5, -9);
  }

  /** A read after a write must not keep the tag and value that the write ended with. */
  private static void beginForgetsTheLastOperation() {
    QuorumRegister x = new QuorumRegister();
    x.write(0, 11);
    Runs.ask(x, 0, 0, 1, 2);
    x.leave(0);
    Runs.clear(x);
    x.read(0);
    Runs.ask(x, 0, 0, 1, 2);
    Runs.store(x, 0, 0, 1, 2);
    Runs.dueOperation(x, 0, 0, 2, 0, 0, 0);
  }

  private static void serialsAreEachClientsOwn() {
    QuorumRegister x = new QuorumRegister();
    for (int n = 1; n <= 4; n++) {
      Due.is("read(1)", x.read(1), n);
      Due.is("message(0, 3)", x.message(0, 3), n);
      x.leave(1);
      Runs.clear(x);
    }
    Due.is("write(2, 0)", x.write(2, 0), 1);
    Due.is("write(1, 0)", x.write(1, 0), 5);
  }
}
