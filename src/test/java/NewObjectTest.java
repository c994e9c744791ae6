/** Promise 1. */
public final class NewObjectTest {
  public static void main(String[] args) {
    everythingIsEmpty(new QuorumRegister());
    objectsShareNothing();
    Due.end();
  }

  private static void everythingIsEmpty(QuorumRegister x) {
    for (int r = 0; r < 5; r++) {
      Runs.dueReplica(x, r, 0, 0);
      Due.is("failed(" + r + ")", x.failed(r), false);
    }
    for (int c = 0; c < 3; c++) {
      Runs.dueClient(x, c, 0, 0);
      Due.is("leave(" + c + ")", x.leave(c), false);
    }
    Due.is("messages()", x.messages(), 0);
    Due.is("message(0, 0)", x.message(0, 0), -1);
    Due.is("finished()", x.finished(), 0);
    Due.is("operation(0, 0)", x.operation(0, 0), -1);
    for (int c = 0; c < 3; c++) {
      Due.is("the first read(" + c + ")", x.read(c), 1);
    }
  }

  private static void objectsShareNothing() {
    QuorumRegister used = new QuorumRegister();
    used.fail(1);
    used.write(0, 5);
    Runs.ask(used, 0, 0, 2, 3);
    Runs.store(used, 0, 0, 2, 3);
    used.read(1);
    everythingIsEmpty(new QuorumRegister());
    Due.is("finished() of the used one", used.finished(), 1);
  }
}
