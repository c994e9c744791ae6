/** Promises 6, 7, 9 and 10: lose, repeat, messages and message. */
public final class NetworkTest {
  public static void main(String[] args) {
    loses();
    refusesToLose();
    repeats();
    refusesToRepeat();
    looksAtMessages();
    refusesToLook();
    poolHoldsItsMost();
    Due.end();
  }

  private static void dueReplicas(QuorumRegister x, int... replicas) {
    Due.is("messages()", x.messages(), replicas.length);
    for (int i = 0; i < replicas.length; i++) {
      Due.is("message(" + i + ", 2)", x.message(i, 2), replicas[i]);
    }
  }

  private static void loses() {
    QuorumRegister x = new QuorumRegister();
    x.read(0);
    Due.is("lose(2)", x.lose(2), true);
    dueReplicas(x, 0, 1, 3, 4);
    Due.is("lose(3)", x.lose(3), true);
    dueReplicas(x, 0, 1, 3);
    Due.is("lose(0)", x.lose(0), true);
    dueReplicas(x, 1, 3);
    Due.is("lose(0)", x.lose(0), true);
    Due.is("lose(0)", x.lose(0), true);
    dueReplicas(x);
    Runs.dueClient(x, 0, 1, 0);
  }

  private static void refusesToLose() {
    QuorumRegister x = new QuorumRegister();
    Due.is("lose(0) of nothing", x.lose(0), false);
    x.read(0);
    Due.is("lose(5) of 5", x.lose(5), false);
    for (int i : Runs.NO_INDEX) {
      Due.is("lose(" + i + ")", x.lose(i), false);
    }
    dueReplicas(x, 0, 1, 2, 3, 4);
  }

  private static void repeats() {
    QuorumRegister x = new QuorumRegister();
    x.write(1, -8);
    Runs.ask(x, 1, 0, 1, 2);
    int i = Runs.find(x, Runs.STORE, 1, 3);
    Due.is("repeat", x.repeat(i), true);
    Due.is("messages()", x.messages(), 8);
    Runs.dueMessage(x, 7, Runs.STORE, 1, 3, 1, 5, -8);
    Runs.dueMessage(x, i, Runs.STORE, 1, 3, 1, 5, -8);
    Due.is("repeat of the copy", x.repeat(7), true);
    Runs.dueMessage(x, 8, Runs.STORE, 1, 3, 1, 5, -8);
    Due.is("the copy is delivered", x.deliver(8), 1);
    Runs.dueReplica(x, 3, 5, -8);
    Runs.dueClient(x, 1, 2, 0);
  }

  private static void refusesToRepeat() {
    QuorumRegister x = new QuorumRegister();
    Due.is("repeat(0) of nothing", x.repeat(0), false);
    x.read(0);
    Due.is("repeat(5) of 5", x.repeat(5), false);
    for (int i : Runs.NO_INDEX) {
      Due.is("repeat(" + i + ")", x.repeat(i), false);
    }
    Due.is("messages()", x.messages(), 5);
    Runs.fill(x, 60);
    Due.is("repeat(4) at 60", x.repeat(4), true);
    Due.is("message(60, 2)", x.message(60, 2), 4);
    Due.is("repeat(0) at 61", x.repeat(0), false);
    Due.is("messages()", x.messages(), 61);
    x.lose(0);
    Due.is("repeat(0) at 60 again", x.repeat(0), true);
  }

  private static void looksAtMessages() {
    QuorumRegister x = new QuorumRegister();
    x.write(2, 77);
    x.leave(2);
    Runs.clear(x);
    x.write(2, 78);
    Runs.dueMessage(x, 4, Runs.ASK, 2, 4, 2, 0, 0);
    Runs.ask(x, 2, 2, 3, 4);
    Runs.dueMessage(x, 6, Runs.STORE, 2, 4, 2, 6, 78);
    x.deliver(6);
    Runs.dueMessage(x, 6, Runs.STORED, 2, 4, 2, 0, 0);
    Due.is("messages()", x.messages(), 7);
  }

  private static void refusesToLook() {
    QuorumRegister x = new QuorumRegister();
    Due.is("message(0, 0) of nothing", x.message(0, 0), -1);
    x.read(0);
    Due.is("message(5, 0) of 5", x.message(5, 0), -1);
    for (int n : Runs.NO_INDEX) {
      Due.is("message(" + n + ", 0)", x.message(n, 0), -1);
      Due.is("message(4, " + n + ")", x.message(4, n), 0);
      Due.is("message(" + n + ", " + n + ")", x.message(n, n), -1);
    }
    // A message with neighbours on both sides, whose cells an unchecked 'what' would reach.
    x.write(1, 9);
    Runs.ask(x, 1, 0, 1, 2);
    int i = Runs.find(x, Runs.STORE, 1, 2);
    Due.is("message(i, -1)", x.message(i, -1), 0);
    Due.is("message(i, 6)", x.message(i, 6), 0);
    Due.is("message(i, 7)", x.message(i, 7), 0);
  }

  /** A beginning at 60, then every client turns to storing: the fullest pool there can be, each message as sent. */
  private static void poolHoldsItsMost() {
    QuorumRegister x = new QuorumRegister();
    for (int c = 0; c < 2; c++) {
      x.write(c, 10 + c);
      Runs.ask(x, c, 0, 1);
      Runs.pass(x, Runs.ASK, c, 2);
    }
    // Message 0 is client 0's ASK to replica 3.
    Runs.fill(x, 60);
    Due.is("write(2, 12)", x.write(2, 12), 1);
    Due.is("messages()", x.messages(), 65);
    Due.is("TELL of 2 to 0", Runs.pass(x, Runs.TELL, 0, 2), 5);
    Due.is("TELL of 2 to 1", Runs.pass(x, Runs.TELL, 1, 2), 5);
    Due.is("messages()", x.messages(), 73);
    for (int n = 0; n < 3; n++) {
      Due.is("ASK of 2", x.deliver(58), 1);
    }
    for (int n = 0; n < 3; n++) {
      Due.is("TELL to 2", x.deliver(70), n < 2 ? 0 : 5);
    }
    Due.is("messages()", x.messages(), 75);
    for (int c = 0; c < 3; c++) {
      for (int r = 0; r < 5; r++) {
        Runs.dueMessage(x, 60 + 5 * c + r, Runs.STORE, c, r, 1, 4 + c, 10 + c);
      }
    }
    Due.is("message(75, 0)", x.message(75, 0), -1);
    Due.is("deliver(74)", x.deliver(74), 1);
    Runs.dueReplica(x, 4, 6, 12);
    Due.is("deliver(0)", x.deliver(0), 1);
    Runs.dueMessage(x, 74, Runs.TELL, 0, 3, 1, 0, 0);
  }
}
