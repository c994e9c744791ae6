/** The boundary cases that promises 1 to 8 name, a test for each: the calls that change the object. */
public final class CallEdgesTest {
  public static void main(String[] args) {
    newTagsAndValues();
    newReplicasWork();
    newClientsAreIdle();
    newSerialsAreZero();
    newPoolIsEmpty();
    newNothingIsFinished();
    for (boolean writes : new boolean[] {true, false}) {
      beginForClientTooSmall(writes);
      beginForClientTooLarge(writes);
      beginWhileAsking(writes);
      beginWhileStoring(writes);
      beginAt60(writes);
      beginAt61(writes);
      beginAtFullestPool(writes);
      noClientComesBeforeCrowd(writes);
      busyComesBeforeCrowd(writes);
    }
    leaveForNoClient();
    leaveWhenIdle();
    leaveKeepsMessages();
    leftOperationIsNeverFinished();
    deliverFromEmptyPool();
    deliverTooSmall();
    deliverTooLarge();
    deliverSaysHowManyWereSent();
    loseFromEmptyPool();
    loseTooSmall();
    loseTooLarge();
    lostMessageIsNeverDelivered();
    repeatFromEmptyPool();
    repeatTooSmall();
    repeatTooLarge();
    repeatAt60();
    repeatAt61();
    repeatPutsTheCopyAtTheEnd();
    failTooSmall();
    failTooLarge();
    failTwice();
    failAThird();
    failedStaysFailed();
    Due.end();
  }

  private static void newTagsAndValues() {
    Due.sentence("1: All tags and values 0");
    QuorumRegister x = new QuorumRegister();
    for (int r = 0; r < 5; r++) {
      Runs.dueReplica(x, r, 0, 0);
    }
    x.read(0);
    for (int r = 0; r < 5; r++) {
      x.deliver(0);
      Runs.dueMessage(x, 4, Runs.TELL, 0, r, 1, 0, 0);
    }
  }

  private static void newReplicasWork() {
    Due.sentence("1: no replica has failed");
    for (int r = 0; r < 5; r++) {
      QuorumRegister x = new QuorumRegister();
      Due.is("failed(" + r + ")", x.failed(r), false);
      x.read(0);
      Due.is("ASK to " + r, x.deliver(r), 1);
      Due.is("fail(" + r + ")", x.fail(r), true);
    }
  }

  private static void newClientsAreIdle() {
    Due.sentence("1: all clients idle");
    for (int c = 0; c < 3; c++) {
      QuorumRegister x = new QuorumRegister();
      Runs.dueClient(x, c, 0, 0);
      Due.is("leave(" + c + ")", x.leave(c), false);
    }
  }

  private static void newSerialsAreZero() {
    Due.sentence("1: with serial 0");
    for (int c = 0; c < 3; c++) {
      QuorumRegister x = new QuorumRegister();
      Due.is("the first write(" + c + ", 4)", x.write(c, 4), 1);
      Due.is("the serial of ASK", x.message(0, 3), 1);
    }
  }

  private static void newPoolIsEmpty() {
    Due.sentence("1: the pool is empty");
    QuorumRegister x = new QuorumRegister();
    Due.is("messages()", x.messages(), 0);
    Due.is("message(0, 0)", x.message(0, 0), -1);
  }

  private static void newNothingIsFinished() {
    Due.sentence("1: nothing is finished");
    QuorumRegister x = new QuorumRegister();
    Due.is("finished()", x.finished(), 0);
    Due.is("operation(0, 0)", x.operation(0, 0), -1);
  }

  private static int begin(QuorumRegister x, boolean writes, int c) {
    return writes ? x.write(c, 5) : x.read(c);
  }

  private static String name(boolean writes, int c) {
    return writes ? "write(" + c + ", 5)" : "read(" + c + ")";
  }

  private static void dueBegin(QuorumRegister x, boolean writes, int c, int want) {
    Due.is(name(writes, c), begin(x, writes, c), want);
  }

  private static String promise(boolean writes) {
    return writes ? "2: " : "3: as write ";
  }

  private static void beginForClientTooSmall(boolean writes) {
    Due.sentence(promise(writes) + "-1 c is not 0 .. 2: too small");
    for (int c : Runs.TOO_SMALL) {
      QuorumRegister x = new QuorumRegister();
      dueBegin(x, writes, c, -1);
      Due.is("messages()", x.messages(), 0);
    }
  }

  private static void beginForClientTooLarge(boolean writes) {
    Due.sentence(promise(writes) + "-1 c is not 0 .. 2: too large");
    for (int c : Runs.tooLarge(3)) {
      QuorumRegister x = new QuorumRegister();
      dueBegin(x, writes, c, -1);
      Due.is("messages()", x.messages(), 0);
    }
  }

  private static void beginWhileAsking(boolean writes) {
    Due.sentence(promise(writes) + "-2 it is not idle: it is asking");
    for (int c = 0; c < 3; c++) {
      QuorumRegister x = new QuorumRegister();
      x.read(c);
      dueBegin(x, writes, c, -2);
      Runs.ask(x, c, 0, 1);
      dueBegin(x, writes, c, -2);
      dueBegin(x, writes, (c + 1) % 3, 1);
    }
  }

  private static void beginWhileStoring(boolean writes) {
    Due.sentence(promise(writes) + "-2 it is not idle: it is storing");
    for (int c = 0; c < 3; c++) {
      QuorumRegister x = new QuorumRegister();
      x.read(c);
      Runs.ask(x, c, 0, 1, 2);
      dueBegin(x, writes, c, -2);
      Runs.store(x, c, 0, 1);
      dueBegin(x, writes, c, -2);
      Runs.store(x, c, 2);
      dueBegin(x, writes, c, 2);
    }
  }

  /** Client 0 is asking. */
  private static QuorumRegister withMessages(int n) {
    QuorumRegister x = new QuorumRegister();
    x.read(0);
    Runs.fill(x, n);
    return x;
  }

  private static void beginAt60(boolean writes) {
    Due.sentence(promise(writes) + "-3 there are more than 60 messages: 60 are not more");
    QuorumRegister x = withMessages(60);
    dueBegin(x, writes, 1, 1);
    Due.is("messages()", x.messages(), 65);
    for (int r = 0; r < 5; r++) {
      Runs.dueMessage(x, 60 + r, Runs.ASK, 1, r, 1, 0, 0);
    }
  }

  private static void beginAt61(boolean writes) {
    Due.sentence(promise(writes) + "-3 there are more than 60 messages: 61 are");
    for (int c = 1; c < 3; c++) {
      QuorumRegister x = withMessages(61);
      dueBegin(x, writes, c, -3);
      Due.is("messages()", x.messages(), 61);
      x.lose(30);
      dueBegin(x, writes, c, 1);
    }
  }

  /** 75 messages, all clients storing: a begin at 60 and three turns to storing can't make more. */
  private static QuorumRegister fullest() {
    QuorumRegister x = new QuorumRegister();
    for (int c = 0; c < 2; c++) {
      x.write(c, 10 + c);
      Runs.ask(x, c, 0, 1);
      Runs.pass(x, Runs.ASK, c, 2);
    }
    Runs.fill(x, 60);
    x.write(2, 12);
    Runs.pass(x, Runs.TELL, 0, 2);
    Runs.pass(x, Runs.TELL, 1, 2);
    for (int n = 0; n < 3; n++) {
      x.deliver(58);
    }
    for (int n = 0; n < 3; n++) {
      x.deliver(70);
    }
    Due.is("messages() at their most", x.messages(), 75);
    return x;
  }

  private static void beginAtFullestPool(boolean writes) {
    Due.sentence(promise(writes) + "-3 there are more than 60 messages: as many as there can be");
    QuorumRegister x = fullest();
    x.leave(1);
    dueBegin(x, writes, 1, -3);
    for (int n = 0; n < 14; n++) {
      x.lose(0);
    }
    dueBegin(x, writes, 1, -3);
    x.lose(0);
    dueBegin(x, writes, 1, 2);
    Runs.dueMessage(x, 59, Runs.STORE, 2, 4, 1, 6, 12);
    Runs.dueMessage(x, 64, Runs.ASK, 1, 4, 2, 0, 0);
  }

  private static void noClientComesBeforeCrowd(boolean writes) {
    Due.sentence(promise(writes) + "first that holds: -1 before -3");
    QuorumRegister x = withMessages(61);
    for (int c : new int[] {-1, 3, Integer.MIN_VALUE, Integer.MAX_VALUE}) {
      dueBegin(x, writes, c, -1);
    }
  }

  private static void busyComesBeforeCrowd(boolean writes) {
    Due.sentence(promise(writes) + "first that holds: -2 before -3");
    QuorumRegister x = withMessages(61);
    dueBegin(x, writes, 0, -2);
    QuorumRegister y = fullest();
    for (int c = 0; c < 3; c++) {
      dueBegin(y, writes, c, -2);
    }
  }

  private static void leaveForNoClient() {
    Due.sentence("4: false if c is not 0 .. 2");
    QuorumRegister x = new QuorumRegister();
    for (int c = 0; c < 3; c++) {
      x.read(c);
    }
    for (int c : Runs.TOO_SMALL) {
      Due.is("leave(" + c + ")", x.leave(c), false);
    }
    for (int c : Runs.tooLarge(3)) {
      Due.is("leave(" + c + ")", x.leave(c), false);
    }
    for (int c = 0; c < 3; c++) {
      Runs.dueClient(x, c, 1, 0);
    }
  }

  private static void leaveWhenIdle() {
    Due.sentence("4: false if c is idle");
    for (int c = 0; c < 3; c++) {
      QuorumRegister x = new QuorumRegister();
      Due.is("leave(" + c + ") when new", x.leave(c), false);
      x.write((c + 1) % 3, 5);
      Due.is("leave(" + c + ") while another is not", x.leave(c), false);
      Runs.clear(x);
      x.read(c);
      Due.is("leave(" + c + ")", x.leave(c), true);
      Due.is("leave(" + c + ") again", x.leave(c), false);
      Runs.clear(x);
      x.read(c);
      Runs.carry(x, 0);
      Due.is("leave(" + c + ") when finished", x.leave(c), false);
      Due.is("finished()", x.finished(), 1);
    }
  }

  private static void leaveKeepsMessages() {
    Due.sentence("4: its messages stay in the pool");
    QuorumRegister x = new QuorumRegister();
    x.write(1, 5);
    x.deliver(0);
    x.leave(1);
    Due.is("messages()", x.messages(), 5);
    Runs.dueMessage(x, 0, Runs.ASK, 1, 1, 1, 0, 0);
    Runs.dueMessage(x, 4, Runs.TELL, 1, 0, 1, 0, 0);
    QuorumRegister y = new QuorumRegister();
    y.write(1, 5);
    Runs.ask(y, 1, 0, 1, 2);
    y.leave(1);
    Due.is("messages()", y.messages(), 7);
    Due.is("a STORE of it", Runs.pass(y, Runs.STORE, 1, 4), 1);
    Runs.dueReplica(y, 4, 5, 5);
  }

  private static void leftOperationIsNeverFinished() {
    Due.sentence("4: it is idle, and the operation is never finished");
    QuorumRegister x = new QuorumRegister();
    x.write(0, 5);
    Runs.ask(x, 0, 0, 1, 2);
    Runs.store(x, 0, 0, 1);
    x.leave(0);
    Runs.dueClient(x, 0, 0, 0);
    for (int n = 0; n < 40; n++) {
      x.deliver(0);
    }
    Due.is("messages()", x.messages(), 0);
    Runs.dueClient(x, 0, 0, 0);
    Due.is("finished()", x.finished(), 0);
    Due.is("operation(0, 0)", x.operation(0, 0), -1);
    Due.is("read(0)", x.read(0), 2);
    Runs.carry(x, 0);
    Due.is("finished()", x.finished(), 1);
    Runs.dueOperation(x, 0, 0, 2, 0, 5, 4);
  }

  private static void deliverFromEmptyPool() {
    Due.sentence("5: -1 if there is none such: the pool is empty");
    QuorumRegister x = new QuorumRegister();
    Due.is("deliver(0)", x.deliver(0), -1);
    x.read(0);
    Runs.clear(x);
    Due.is("deliver(0) of an emptied pool", x.deliver(0), -1);
    Runs.dueClient(x, 0, 1, 0);
  }

  private static void deliverTooSmall() {
    Due.sentence("5: -1 if there is none such: too small");
    for (int i : Runs.TOO_SMALL) {
      QuorumRegister x = withMessages(12);
      Due.is("deliver(" + i + ")", x.deliver(i), -1);
      Due.is("messages()", x.messages(), 12);
    }
  }

  private static void deliverTooLarge() {
    Due.sentence("5: -1 if there is none such: too large");
    for (int i : Runs.tooLarge(12)) {
      QuorumRegister x = withMessages(12);
      Due.is("deliver(" + i + ")", x.deliver(i), -1);
      Due.is("messages()", x.messages(), 12);
    }
    QuorumRegister x = withMessages(12);
    Due.is("deliver(11), the last", x.deliver(11), 1);
    QuorumRegister y = fullest();
    Due.is("deliver(75) of 75", y.deliver(75), -1);
    Due.is("deliver(74) of 75", y.deliver(74), 1);
  }

  private static void deliverSaysHowManyWereSent() {
    Due.sentence("5: how many messages were sent because of that: 0, 1 or 5");
    QuorumRegister x = new QuorumRegister();
    x.write(0, 5);
    for (int n = 0; n < 3; n++) {
      Due.is("ASK", x.deliver(0), 1);
    }
    Due.is("the first TELL", x.deliver(2), 0);
    Due.is("the second TELL", x.deliver(2), 0);
    Due.is("the third TELL", x.deliver(2), 5);
    for (int n = 0; n < 3; n++) {
      Due.is("STORE", x.deliver(2), 1);
    }
    for (int n = 0; n < 3; n++) {
      Due.is("STORED", x.deliver(4), 0);
    }
    Due.is("messages()", x.messages(), 4);
  }

  private static void loseFromEmptyPool() {
    Due.sentence("6: false if there is none such: the pool is empty");
    QuorumRegister x = new QuorumRegister();
    Due.is("lose(0)", x.lose(0), false);
    x.read(0);
    Runs.clear(x);
    Due.is("lose(0) of an emptied pool", x.lose(0), false);
    Due.is("messages()", x.messages(), 0);
  }

  private static void loseTooSmall() {
    Due.sentence("6: false if there is none such: too small");
    for (int i : Runs.TOO_SMALL) {
      QuorumRegister x = withMessages(12);
      Due.is("lose(" + i + ")", x.lose(i), false);
      Due.is("messages()", x.messages(), 12);
    }
  }

  private static void loseTooLarge() {
    Due.sentence("6: false if there is none such: too large");
    for (int i : Runs.tooLarge(12)) {
      QuorumRegister x = withMessages(12);
      Due.is("lose(" + i + ")", x.lose(i), false);
      Due.is("messages()", x.messages(), 12);
    }
    QuorumRegister x = withMessages(12);
    Due.is("lose(11), the last", x.lose(11), true);
    Due.is("lose(11) again", x.lose(11), false);
    QuorumRegister y = fullest();
    Due.is("lose(75) of 75", y.lose(75), false);
    Due.is("lose(74) of 75", y.lose(74), true);
    Runs.dueMessage(y, 73, Runs.STORE, 2, 3, 1, 6, 12);
  }

  private static void lostMessageIsNeverDelivered() {
    Due.sentence("6: Message i of the pool leaves it and is never delivered");
    for (int lost = 0; lost < 5; lost++) {
      QuorumRegister x = new QuorumRegister();
      x.read(1);
      Due.is("lose(" + lost + ")", x.lose(lost), true);
      Due.is("messages()", x.messages(), 4);
      for (int i = 0; i < 4; i++) {
        Runs.dueMessage(x, i, Runs.ASK, 1, i < lost ? i : i + 1, 1, 0, 0);
      }
      for (int n = 0; n < 4; n++) {
        x.deliver(0);
      }
      Due.is("TELL of the one that was not asked", Runs.find(x, Runs.TELL, 1, lost), -1);
    }
  }

  private static void repeatFromEmptyPool() {
    Due.sentence("7: false if there is none such: the pool is empty");
    QuorumRegister x = new QuorumRegister();
    Due.is("repeat(0)", x.repeat(0), false);
    x.read(0);
    Runs.clear(x);
    Due.is("repeat(0) of an emptied pool", x.repeat(0), false);
    Due.is("messages()", x.messages(), 0);
  }

  private static void repeatTooSmall() {
    Due.sentence("7: false if there is none such: too small");
    for (int i : Runs.TOO_SMALL) {
      QuorumRegister x = withMessages(12);
      Due.is("repeat(" + i + ")", x.repeat(i), false);
      Due.is("messages()", x.messages(), 12);
    }
  }

  private static void repeatTooLarge() {
    Due.sentence("7: false if there is none such: too large");
    for (int i : Runs.tooLarge(12)) {
      QuorumRegister x = withMessages(12);
      Due.is("repeat(" + i + ")", x.repeat(i), false);
      Due.is("messages()", x.messages(), 12);
    }
    QuorumRegister x = withMessages(12);
    Due.is("repeat(11), the last", x.repeat(11), true);
    QuorumRegister y = withMessages(60);
    Due.is("repeat(60) of 60", y.repeat(60), false);
    Due.is("repeat(59) of 60", y.repeat(59), true);
  }

  private static void repeatAt60() {
    Due.sentence("7: false if there are more than 60 messages: 60 are not more");
    QuorumRegister x = withMessages(60);
    Due.is("repeat(3)", x.repeat(3), true);
    Due.is("messages()", x.messages(), 61);
    Runs.dueMessage(x, 60, Runs.ASK, 0, 3, 1, 0, 0);
  }

  private static void repeatAt61() {
    Due.sentence("7: false if there are more than 60 messages: 61 and more are");
    QuorumRegister x = withMessages(61);
    for (int i : new int[] {0, 30, 60, 61, -1}) {
      Due.is("repeat(" + i + ") of 61", x.repeat(i), false);
    }
    Due.is("messages()", x.messages(), 61);
    QuorumRegister y = fullest();
    Due.is("repeat(0) of 75", y.repeat(0), false);
    Due.is("repeat(74) of 75", y.repeat(74), false);
    Due.is("messages()", y.messages(), 75);
  }

  private static void repeatPutsTheCopyAtTheEnd() {
    Due.sentence("7: A copy of message i is put at the end of the pool");
    QuorumRegister x = new QuorumRegister();
    x.write(2, -7);
    Runs.ask(x, 2, 0, 1, 2);
    // A copy keeps the serial that the message was sent with, whatever the client began since.
    x.leave(2);
    x.read(2);
    for (int i : new int[] {0, 3, 6, 11}) {
      int last = x.messages();
      int[] of = new int[6];
      for (int what = 0; what < 6; what++) {
        of[what] = x.message(i, what);
      }
      Due.is("repeat(" + i + ")", x.repeat(i), true);
      Due.is("messages()", x.messages(), last + 1);
      Runs.dueMessage(x, i, of);
      Runs.dueMessage(x, last, of);
    }
  }

  private static void failTooSmall() {
    Due.sentence("8: false if r is not 0 .. 4: too small");
    QuorumRegister x = new QuorumRegister();
    for (int r : Runs.TOO_SMALL) {
      Due.is("fail(" + r + ")", x.fail(r), false);
    }
    Due.is("fail(0)", x.fail(0), true);
    Due.is("fail(1)", x.fail(1), true);
  }

  private static void failTooLarge() {
    Due.sentence("8: false if r is not 0 .. 4: too large");
    QuorumRegister x = new QuorumRegister();
    for (int r : Runs.tooLarge(5)) {
      Due.is("fail(" + r + ")", x.fail(r), false);
    }
    Due.is("fail(4)", x.fail(4), true);
    Due.is("fail(3)", x.fail(3), true);
  }

  private static void failTwice() {
    Due.sentence("8: false if it has failed already");
    for (int r = 0; r < 5; r++) {
      QuorumRegister x = new QuorumRegister();
      Due.is("fail(" + r + ")", x.fail(r), true);
      Due.is("fail(" + r + ") again", x.fail(r), false);
      Due.is("fail(" + r + ") once more", x.fail(r), false);
      Due.is("fail of the next, still the second", x.fail((r + 1) % 5), true);
    }
  }

  private static void failAThird() {
    Due.sentence("8: false if two have");
    for (int r = 0; r < 5; r++) {
      QuorumRegister x = new QuorumRegister();
      x.fail((r + 1) % 5);
      x.fail((r + 3) % 5);
      Due.is("fail(" + r + ")", x.fail(r), false);
      Due.is("failed(" + r + ")", x.failed(r), false);
      x.read(0);
      Due.is("ASK to " + r, x.deliver(r), 1);
    }
  }

  private static void failedStaysFailed() {
    Due.sentence("8: Replica r fails for good");
    QuorumRegister x = new QuorumRegister();
    x.fail(2);
    x.fail(2);
    x.fail(0);
    x.fail(1);
    for (int c = 0; c < 3; c++) {
      x.read(c);
      Due.is("ASK to 2", Runs.pass(x, Runs.ASK, c, 2), 0);
      Runs.ask(x, c, 1, 3, 4);
      Due.is("STORE to 2", Runs.pass(x, Runs.STORE, c, 2), 0);
      Runs.store(x, c, 1, 3, 4);
      Due.is("failed(2)", x.failed(2), true);
      Runs.clear(x);
    }
    Due.is("finished()", x.finished(), 3);
  }
}
