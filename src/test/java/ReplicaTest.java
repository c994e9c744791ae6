/** Promises 8, 11, 12 and 13: fail, tag, value and failed. */
public final class ReplicaTest {
  public static void main(String[] args) {
    twoMayFail();
    refusesNoReplica();
    looksAtNoReplica();
    tagAndValueAreTheReplicasOwn();
    failureKeepsTagAndValue();
    Due.end();
  }

  private static void twoMayFail() {
    for (int a = 0; a < 5; a++) {
      for (int b = 0; b < 5; b++) {
        if (a != b) {
          twoFail(a, b);
        }
      }
    }
  }

  private static void twoFail(int a, int b) {
    QuorumRegister x = new QuorumRegister();
    Due.is("fail(" + a + ")", x.fail(a), true);
    Due.is("fail(" + a + ") again", x.fail(a), false);
    Due.is("fail(" + b + ")", x.fail(b), true);
    for (int r = 0; r < 5; r++) {
      Due.is("fail(" + r + ") after two", x.fail(r), false);
      Due.is("failed(" + r + ")", x.failed(r), r == a || r == b);
    }
    Due.is("messages()", x.messages(), 0);
  }

  private static void refusesNoReplica() {
    QuorumRegister x = new QuorumRegister();
    Due.is("fail(5)", x.fail(5), false);
    for (int r : Runs.NO_INDEX) {
      Due.is("fail(" + r + ")", x.fail(r), false);
    }
    for (int r = 0; r < 5; r++) {
      Due.is("failed(" + r + ")", x.failed(r), false);
    }
    Due.is("fail(4)", x.fail(4), true);
    Due.is("fail(0)", x.fail(0), true);
  }

  private static void looksAtNoReplica() {
    QuorumRegister x = new QuorumRegister();
    x.fail(0);
    x.write(0, 5);
    Runs.ask(x, 0, 1, 2, 3);
    Runs.store(x, 0, 1, 2, 3);
    Runs.store(x, 0, 4);
    Due.is("tag(5)", x.tag(5), -1);
    Due.is("value(5)", x.value(5), 0);
    Due.is("failed(5)", x.failed(5), false);
    for (int r : Runs.NO_INDEX) {
      Due.is("tag(" + r + ")", x.tag(r), -1);
      Due.is("value(" + r + ")", x.value(r), 0);
      Due.is("failed(" + r + ")", x.failed(r), false);
    }
  }

  private static void tagAndValueAreTheReplicasOwn() {
    for (int stored = 0; stored < 5; stored++) {
      QuorumRegister x = new QuorumRegister();
      x.write(1, Integer.MIN_VALUE);
      Runs.ask(x, 1, 0, 1, 2);
      Runs.pass(x, Runs.STORE, 1, stored);
      for (int r = 0; r < 5; r++) {
        Runs.dueReplica(x, r, r == stored ? 5 : 0, r == stored ? Integer.MIN_VALUE : 0);
      }
    }
  }

  private static void failureKeepsTagAndValue() {
    QuorumRegister x = new QuorumRegister();
    x.write(2, 12);
    Runs.ask(x, 2, 0, 1, 2);
    Runs.store(x, 2, 3);
    int before = x.messages();
    x.fail(3);
    Runs.dueReplica(x, 3, 6, 12);
    Due.is("messages()", x.messages(), before);
    Runs.dueClient(x, 2, 2, 8);
  }
}
