/** Promises 16 and 17: finished and operation. */
public final class FinishedTest {
  public static void main(String[] args) {
    rowsStandInTheOrderOfFinishing();
    refusesToLook();
    asManyAsFitInto512Calls();
    laterCallsNeverThrow();
    Due.end();
  }

  private static void rowsStandInTheOrderOfFinishing() {
    QuorumRegister x = new QuorumRegister();
    x.write(0, -1);
    x.read(1);
    x.read(2);
    x.leave(2);
    x.write(2, 5);
    Runs.clear(x);
    x.leave(2);
    x.write(2, 6);
    Runs.ask(x, 2, 0, 1, 2);
    Due.is("finished()", x.finished(), 0);
    Runs.store(x, 2, 0, 1, 2);
    Due.is("finished()", x.finished(), 1);
    Runs.dueOperation(x, 0, 2, 3, 1, 6, 6);
    x.leave(1);
    Runs.clear(x);
    x.read(1);
    Runs.ask(x, 1, 2, 3, 4);
    Runs.store(x, 1, 2, 3, 4);
    x.leave(0);
    Runs.clear(x);
    x.write(0, -1);
    Runs.ask(x, 0, 2, 3, 4);
    Runs.store(x, 0, 2, 3, 4);
    Due.is("finished()", x.finished(), 3);
    Runs.dueOperation(x, 0, 2, 3, 1, 6, 6);
    Runs.dueOperation(x, 1, 1, 2, 0, 6, 6);
    Runs.dueOperation(x, 2, 0, 2, 1, -1, 8);
  }

  private static void refusesToLook() {
    QuorumRegister x = new QuorumRegister();
    Due.is("operation(0, 0) of none", x.operation(0, 0), -1);
    for (int n = 0; n < 3; n++) {
      x.write(n, 9);
      Runs.ask(x, n, 0, 1, 2);
      Runs.store(x, n, 0, 1, 2);
    }
    Due.is("operation(3, 0) of 3", x.operation(3, 0), -1);
    Due.is("operation(1, 5)", x.operation(1, 5), 0);
    Due.is("operation(1, 6)", x.operation(1, 6), 0);
    Due.is("operation(1, -1)", x.operation(1, -1), 0);
    for (int n : Runs.NO_INDEX) {
      Due.is("operation(" + n + ", 0)", x.operation(n, 0), -1);
      Due.is("operation(2, " + n + ")", x.operation(2, n), 0);
      Due.is("operation(" + n + ", " + n + ")", x.operation(n, n), -1);
    }
  }

  /** An object for each row that is looked at: the looking counts as calls too. */
  private static void asManyAsFitInto512Calls() {
    int looks = 6;
    int most = finishMany(new QuorumRegister(), 512 - looks);
    for (int n = 0; n < most; n++) {
      QuorumRegister x = new QuorumRegister();
      finishMany(x, 512 - looks);
      Due.is("finished()", x.finished(), most);
      Runs.dueOperation(x, n, n % 3, n / 3 + 1, 1, 1000 + n, 4 * (n + 1) + n % 3);
    }
  }

  /** Finishes writes with the fewest calls that do it, 13, and loses messages only where the pool refuses: how many. */
  private static int finishMany(QuorumRegister x, int calls) {
    int left = calls;
    int pool = 0;
    int done = 0;
    while (true) {
      int surplus = Math.max(0, pool - 60);
      if (left < surplus + 13) {
        return done;
      }
      for (int n = 0; n < surplus; n++) {
        x.lose(0);
      }
      pool -= surplus;
      x.write(done % 3, 1000 + done);
      Runs.carry(x, pool);
      left -= surplus + 13;
      pool += 4;
      done++;
    }
  }

  /** What they answer is free, but for this: they answer. */
  private static void laterCallsNeverThrow() {
    QuorumRegister x = new QuorumRegister();
    for (int n = 0; n < 600; n++) {
      x.write(n % 3, n);
      Runs.ask(x, n % 3, 0, 1, 2);
      Runs.store(x, n % 3, 0, 1, 2);
      Runs.clear(x);
      for (int what = -1; what < 6; what++) {
        x.operation(x.finished() - 1, what);
        x.operation(n, what);
      }
    }
  }
}
