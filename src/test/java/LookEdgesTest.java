/** The boundary cases that promises 9 to 17 name, a test for each: the calls that look. */
public final class LookEdgesTest {
  private interface Look {
    int at(QuorumRegister x, int index);
  }

  public static void main(String[] args) {
    messagesFromNoneTo61();
    messageOfEmptyPool();
    messageTooSmall();
    messageTooLarge();
    messageWhatTooSmall();
    messageWhatTooLarge();
    messageAndWhatBothWrong();
    tagOfNoReplica();
    valueOfNoReplica();
    failedOfNoReplica();
    phaseOfNoClient();
    answeredWhenIdle();
    answeredOfNoClient();
    finishedCountsOnlyFinished();
    operationOfNone();
    operationTooSmall();
    operationTooLarge();
    operationWhatTooSmall();
    operationWhatTooLarge();
    operationAndWhatBothWrong();
    operationWrote();
    Due.end();
  }

  /** All tags, values and answers differ from 0 and -1, and so do the last message and the finished operations. */
  private static QuorumRegister busy() {
    QuorumRegister x = new QuorumRegister();
    for (int c = 0; c < 3; c++) {
      x.write(c, 70 + c);
      Runs.carry(x, 0);
      x.deliver(2);
      x.deliver(2);
      Runs.clear(x);
    }
    x.fail(0);
    x.fail(4);
    for (int c = 0; c < 3; c++) {
      x.write(c, 80 + c);
      Runs.ask(x, c, 1);
    }
    Runs.ask(x, 2, 2, 3);
    Runs.store(x, 2, 1);
    return x;
  }

  private static void dueAtAll(String name, int want, int[] indices, Look look) {
    QuorumRegister x = busy();
    for (int i : indices) {
      Due.is(name + ", index " + i, look.at(x, i), want);
    }
  }

  private static int bit(boolean answer) {
    return answer ? 1 : 0;
  }

  private static void messagesFromNoneTo61() {
    Due.sentence("9: How many messages are in the pool");
    QuorumRegister x = new QuorumRegister();
    Due.is("messages() when new", x.messages(), 0);
    x.read(0);
    for (int n = 5; n <= 60; n++) {
      Due.is("messages()", x.messages(), n);
      x.repeat(n - 1);
    }
    Due.is("messages()", x.messages(), 61);
    x.repeat(0);
    Due.is("messages() after a refused repeat", x.messages(), 61);
    for (int n = 60; n >= 0; n--) {
      x.lose(n);
      Due.is("messages()", x.messages(), n);
    }
    x.lose(0);
    Due.is("messages() after a refused lose", x.messages(), 0);
  }

  private static void messageOfEmptyPool() {
    Due.sentence("10: -1 if there is no message i: the pool is empty");
    QuorumRegister x = new QuorumRegister();
    for (int what = 0; what < 6; what++) {
      Due.is("message(0, " + what + ")", x.message(0, what), -1);
    }
    x.read(0);
    Runs.clear(x);
    for (int what = 0; what < 6; what++) {
      Due.is("message(0, " + what + ") of an emptied pool", x.message(0, what), -1);
    }
  }

  private static void messageTooSmall() {
    Due.sentence("10: -1 if there is no message i: too small");
    for (int what = 0; what < 6; what++) {
      int asked = what;
      dueAtAll("message(i, " + what + ")", -1, Runs.TOO_SMALL, (x, i) -> x.message(i, asked));
    }
  }

  private static void messageTooLarge() {
    Due.sentence("10: -1 if there is no message i: too large");
    int count = busy().messages();
    for (int what = 0; what < 6; what++) {
      int asked = what;
      dueAtAll("message(i, " + what + ")", -1, Runs.tooLarge(count), (x, i) -> x.message(i, asked));
    }
    QuorumRegister x = busy();
    Runs.dueMessage(x, count - 1, Runs.STORE, 2, 4, 2, 18, 82);
    x.lose(0);
    Due.is("the index that was the last", x.message(count - 1, 0), -1);
  }

  private static void messageWhatTooSmall() {
    Due.sentence("10: 0 if what is another number: too small");
    int last = busy().messages() - 1;
    for (int i : new int[] {0, last}) {
      dueAtAll("message(" + i + ", what)", 0, Runs.TOO_SMALL, (x, what) -> x.message(i, what));
    }
  }

  private static void messageWhatTooLarge() {
    Due.sentence("10: 0 if what is another number: too large");
    int last = busy().messages() - 1;
    for (int i : new int[] {0, last - 1, last}) {
      dueAtAll("message(" + i + ", what)", 0, Runs.tooLarge(6), (x, what) -> x.message(i, what));
    }
    Due.is("message(last, 5), the last what", busy().message(last, 5), 82);
  }

  private static void messageAndWhatBothWrong() {
    Due.sentence("10: -1 if there is no message i: whatever what is");
    int count = busy().messages();
    for (int i : new int[] {-1, count, Integer.MIN_VALUE, Integer.MAX_VALUE}) {
      dueAtAll("message(" + i + ", what)", -1, Runs.TOO_SMALL, (x, what) -> x.message(i, what));
      dueAtAll("message(" + i + ", what)", -1, Runs.tooLarge(6), (x, what) -> x.message(i, what));
    }
  }

  private static void tagOfNoReplica() {
    Due.sentence("11: -1 if r is not 0 .. 4");
    dueAtAll("tag", -1, Runs.TOO_SMALL, QuorumRegister::tag);
    dueAtAll("tag", -1, Runs.tooLarge(5), QuorumRegister::tag);
    QuorumRegister x = busy();
    Due.is("tag(0)", x.tag(0), 14);
    Due.is("tag(4)", x.tag(4), 14);
  }

  private static void valueOfNoReplica() {
    Due.sentence("12: 0 if r is not 0 .. 4");
    dueAtAll("value", 0, Runs.TOO_SMALL, QuorumRegister::value);
    dueAtAll("value", 0, Runs.tooLarge(5), QuorumRegister::value);
    QuorumRegister x = busy();
    Due.is("value(0)", x.value(0), 72);
    Due.is("value(1)", x.value(1), 82);
  }

  private static void failedOfNoReplica() {
    Due.sentence("13: false if r is not 0 .. 4");
    dueAtAll("failed", 0, Runs.TOO_SMALL, (x, r) -> bit(x.failed(r)));
    dueAtAll("failed", 0, Runs.tooLarge(5), (x, r) -> bit(x.failed(r)));
    QuorumRegister x = busy();
    for (int r = 0; r < 5; r++) {
      Due.is("failed(" + r + ")", x.failed(r), r == 0 || r == 4);
    }
  }

  private static void phaseOfNoClient() {
    Due.sentence("14: -1 if c is not 0 .. 2");
    dueAtAll("phase", -1, Runs.TOO_SMALL, QuorumRegister::phase);
    dueAtAll("phase", -1, Runs.tooLarge(3), QuorumRegister::phase);
    QuorumRegister x = busy();
    Due.is("phase(0)", x.phase(0), 1);
    Due.is("phase(2)", x.phase(2), 2);
    x.leave(0);
    Due.is("phase(0) when it left", x.phase(0), 0);
  }

  private static void answeredWhenIdle() {
    Due.sentence("15: 0 if it is idle");
    for (int c = 0; c < 3; c++) {
      Due.is("answered(" + c + ") when new", new QuorumRegister().answered(c), 0);
      QuorumRegister x = busy();
      Due.is("answered(" + c + ")", x.answered(c), 2);
      x.leave(c);
      Due.is("answered(" + c + ") when it left", x.answered(c), 0);
      QuorumRegister y = new QuorumRegister();
      y.write(c, 5);
      Runs.carry(y, 0);
      Due.is("answered(" + c + ") when it finished", y.answered(c), 0);
    }
  }

  private static void answeredOfNoClient() {
    Due.sentence("15: -1 if c is not 0 .. 2");
    dueAtAll("answered", -1, Runs.TOO_SMALL, QuorumRegister::answered);
    dueAtAll("answered", -1, Runs.tooLarge(3), QuorumRegister::answered);
  }

  private static void finishedCountsOnlyFinished() {
    Due.sentence("16: How many operations are finished");
    QuorumRegister x = new QuorumRegister();
    Due.is("finished() when new", x.finished(), 0);
    for (int n = 0; n < 3; n++) {
      int c = 2 - n;
      x.read(c);
      x.leave(c);
      Runs.clear(x);
      Due.is("finished() after one that was left", x.finished(), n);
      x.write(c, n);
      Runs.ask(x, c, 0, 1, 2);
      Runs.store(x, c, 0, 1);
      Due.is("finished() before the third STORED", x.finished(), n);
      Runs.store(x, c, 2);
      Due.is("finished() after it", x.finished(), n + 1);
      Runs.clear(x);
    }
  }

  private static void operationOfNone() {
    Due.sentence("17: -1 if there is no n-th: nothing is finished");
    QuorumRegister x = new QuorumRegister();
    x.read(0);
    Runs.ask(x, 0, 0, 1, 2);
    for (int what = 0; what < 5; what++) {
      Due.is("operation(0, " + what + ")", x.operation(0, what), -1);
    }
    x.leave(0);
    Due.is("operation(0, 0) after leave(0)", x.operation(0, 0), -1);
  }

  private static void operationTooSmall() {
    Due.sentence("17: -1 if there is no n-th: too small");
    for (int what = 0; what < 5; what++) {
      int asked = what;
      dueAtAll("operation(n, " + what + ")", -1, Runs.TOO_SMALL, (x, n) -> x.operation(n, asked));
    }
  }

  private static void operationTooLarge() {
    Due.sentence("17: -1 if there is no n-th: too large");
    for (int what = 0; what < 5; what++) {
      int asked = what;
      dueAtAll("operation(n, " + what + ")", -1, Runs.tooLarge(3), (x, n) -> x.operation(n, asked));
    }
    QuorumRegister x = busy();
    Due.is("finished()", x.finished(), 3);
    Runs.dueOperation(x, 0, 0, 1, 1, 70, 4);
    Runs.dueOperation(x, 2, 2, 1, 1, 72, 14);
  }

  private static void operationWhatTooSmall() {
    Due.sentence("17: 0 if what is another number: too small");
    for (int n = 0; n < 3; n++) {
      int asked = n;
      dueAtAll("operation(" + n + ", what)", 0, Runs.TOO_SMALL, (x, what) -> x.operation(asked, what));
    }
  }

  private static void operationWhatTooLarge() {
    Due.sentence("17: 0 if what is another number: too large");
    for (int n = 0; n < 3; n++) {
      int asked = n;
      dueAtAll("operation(" + n + ", what)", 0, Runs.tooLarge(5), (x, what) -> x.operation(asked, what));
    }
    Due.is("operation(2, 4), the last what", busy().operation(2, 4), 14);
  }

  private static void operationAndWhatBothWrong() {
    Due.sentence("17: -1 if there is no n-th: whatever what is");
    for (int n : new int[] {-1, 3, Integer.MIN_VALUE, Integer.MAX_VALUE}) {
      dueAtAll("operation(" + n + ", what)", -1, Runs.TOO_SMALL, (x, what) -> x.operation(n, what));
      dueAtAll("operation(" + n + ", what)", -1, Runs.tooLarge(5), (x, what) -> x.operation(n, what));
    }
  }

  private static void operationWrote() {
    Due.sentence("17: 2 whether it wrote (1 or 0)");
    QuorumRegister x = new QuorumRegister();
    x.read(0);
    Runs.carry(x, 0);
    Runs.clear(x);
    x.write(0, 0);
    Runs.carry(x, 0);
    Runs.clear(x);
    x.read(0);
    Runs.carry(x, 0);
    Runs.dueOperation(x, 0, 0, 1, 0, 0, 0);
    Runs.dueOperation(x, 1, 0, 2, 1, 0, 4);
    Runs.dueOperation(x, 2, 0, 3, 0, 0, 4);
  }
}
