/** Promise 4. */
public final class LeaveTest {
  public static void main(String[] args) {
    leavesWhileAsking();
    leavesWhileStoring();
    refuses();
    numberOutlivesTheLeaving();
    Due.end();
  }

  private static void leavesWhileAsking() {
    QuorumRegister x = new QuorumRegister();
    x.write(1, 3);
    x.read(2);
    Runs.ask(x, 1, 0, 1);
    Runs.pass(x, Runs.ASK, 1, 2);
    int before = x.messages();
    Due.is("leave(1)", x.leave(1), true);
    Runs.dueClient(x, 1, 0, 0);
    Runs.dueClient(x, 2, 1, 0);
    Due.is("messages()", x.messages(), before);
    Due.is("a TELL to the one that left", Runs.pass(x, Runs.TELL, 1, 2), 0);
    Runs.dueClient(x, 1, 0, 0);
    Due.is("read(1)", x.read(1), 2);
    Due.is("an ASK of the serial before", x.deliver(Runs.find(x, Runs.ASK, 1, 3)), 1);
    int told = Runs.find(x, Runs.TELL, 1, 3);
    Runs.dueMessage(x, told, Runs.TELL, 1, 3, 1, 0, 0);
    Due.is("a TELL of the serial before", x.deliver(told), 0);
    Runs.dueClient(x, 1, 1, 0);
  }

  private static void leavesWhileStoring() {
    QuorumRegister x = new QuorumRegister();
    x.write(0, 3);
    Runs.ask(x, 0, 0, 1, 2);
    Runs.store(x, 0, 0, 1);
    Due.is("leave(0)", x.leave(0), true);
    Runs.dueClient(x, 0, 0, 0);
    Due.is("a STORE after it", Runs.pass(x, Runs.STORE, 0, 2), 1);
    Runs.dueReplica(x, 2, 4, 3);
    Due.is("a STORED after it", Runs.pass(x, Runs.STORED, 0, 2), 0);
    Due.is("finished()", x.finished(), 0);
    Due.is("operation(0, 0)", x.operation(0, 0), -1);
  }

  private static void refuses() {
    QuorumRegister x = new QuorumRegister();
    Due.is("leave(0) when new", x.leave(0), false);
    x.read(0);
    Due.is("leave(1)", x.leave(1), false);
    Due.is("leave(3)", x.leave(3), false);
    for (int c : Runs.NO_INDEX) {
      Due.is("leave(" + c + ")", x.leave(c), false);
    }
    Runs.dueClient(x, 0, 1, 0);
    Due.is("leave(0)", x.leave(0), true);
    Due.is("leave(0) again", x.leave(0), false);
    x.read(1);
    Runs.ask(x, 1, 0, 1, 2);
    Runs.store(x, 1, 0, 1, 2);
    Due.is("finished()", x.finished(), 1);
    Due.is("leave(1) when finished", x.leave(1), false);
    Due.is("finished() still", x.finished(), 1);
  }

  private static void numberOutlivesTheLeaving() {
    QuorumRegister x = new QuorumRegister();
    for (int n = 1; n <= 3; n++) {
      x.write(2, n);
      Runs.ask(x, 2, 0, 1, 2);
      Due.is("the tag of write " + n, x.message(Runs.find(x, Runs.STORE, 2, 0), 4), 4 * n + 2);
      x.leave(2);
      Runs.clear(x);
    }
  }
}
