/** Promise 5, and what the document's terms say of delivering. */
public final class DeliverTest {
  public static void main(String[] args) {
    refuses();
    askIsTold();
    tellsMakeAQuorum();
    replicaCountsOnce();
    secondTellIsNotHeard();
    answersBearTheMessagesSerial();
    greatestTagWins();
    tagGrowsPastTheTold();
    tagGrowsPastItsOwn();
    othersTagsAreNotItsOwn();
    storeKeepsTheGreater();
    storedMakesAQuorum();
    failedReplicaTakesNothing();
    failedReplicasAnswerStillArrives();
    otherPhaseAndSerialCountNothing();
    sentMessagesStandAtTheEnd();
    Due.end();
  }

  private static void refuses() {
    QuorumRegister x = new QuorumRegister();
    Due.is("deliver(0) from nothing", x.deliver(0), -1);
    x.read(0);
    Due.is("deliver(5) of 5", x.deliver(5), -1);
    for (int i : Runs.NO_INDEX) {
      Due.is("deliver(" + i + ")", x.deliver(i), -1);
    }
    Due.is("messages()", x.messages(), 5);
    Due.is("deliver(4) of 5", x.deliver(4), 1);
  }

  private static void askIsTold() {
    QuorumRegister x = new QuorumRegister();
    x.write(0, 31);
    Runs.ask(x, 0, 0, 1, 2);
    Runs.pass(x, Runs.STORE, 0, 3);
    Runs.clear(x);
    x.leave(0);
    x.read(0);
    Due.is("deliver(3)", x.deliver(3), 1);
    Due.is("messages()", x.messages(), 5);
    Runs.dueMessage(x, 4, Runs.TELL, 0, 3, 2, 4, 31);
    Due.is("deliver(0)", x.deliver(0), 1);
    Runs.dueMessage(x, 4, Runs.TELL, 0, 0, 2, 0, 0);
    Runs.dueReplica(x, 3, 4, 31);
  }

  private static void tellsMakeAQuorum() {
    QuorumRegister x = new QuorumRegister();
    x.write(1, 8);
    for (int r = 0; r < 5; r++) {
      x.deliver(0);
    }
    Due.is("TELL of 4", Runs.pass(x, Runs.TELL, 1, 4), 0);
    Runs.dueClient(x, 1, 1, 16);
    Due.is("TELL of 0", Runs.pass(x, Runs.TELL, 1, 0), 0);
    Runs.dueClient(x, 1, 1, 17);
    Due.is("TELL of 2", Runs.pass(x, Runs.TELL, 1, 2), 5);
    Runs.dueClient(x, 1, 2, 0);
    Due.is("messages()", x.messages(), 7);
    for (int r = 0; r < 5; r++) {
      Runs.dueMessage(x, 2 + r, Runs.STORE, 1, r, 1, 5, 8);
    }
    Due.is("TELL of 1, late", Runs.pass(x, Runs.TELL, 1, 1), 0);
    Runs.dueClient(x, 1, 2, 0);
  }

  private static void replicaCountsOnce() {
    QuorumRegister x = new QuorumRegister();
    x.read(0);
    x.repeat(0);
    x.repeat(0);
    for (int n = 0; n < 3; n++) {
      Runs.ask(x, 0, 0);
      Runs.dueClient(x, 0, 1, 1);
    }
    Runs.ask(x, 0, 1, 2);
    x.repeat(Runs.find(x, Runs.STORE, 0, 4));
    Runs.pass(x, Runs.STORE, 0, 4);
    x.repeat(Runs.find(x, Runs.STORED, 0, 4));
    Runs.pass(x, Runs.STORED, 0, 4);
    Runs.pass(x, Runs.STORED, 0, 4);
    Runs.store(x, 0, 4);
    Runs.dueClient(x, 0, 2, 16);
    Due.is("finished()", x.finished(), 0);
  }

  /** Replica 0 has stored between its two TELLs: the second one's greater tag must not reach the client. */
  private static void secondTellIsNotHeard() {
    QuorumRegister x = new QuorumRegister();
    x.read(2);
    x.repeat(0);
    Runs.ask(x, 2, 0);
    x.write(0, 9);
    Runs.ask(x, 0, 1, 2, 3);
    Runs.pass(x, Runs.STORE, 0, 0);
    Runs.pass(x, Runs.ASK, 2, 0);
    Runs.dueMessage(x, Runs.find(x, Runs.TELL, 2, 0), Runs.TELL, 2, 0, 1, 4, 9);
    Runs.pass(x, Runs.TELL, 2, 0);
    Runs.ask(x, 2, 1, 2);
    Runs.dueMessage(x, Runs.find(x, Runs.STORE, 2, 4), Runs.STORE, 2, 4, 1, 0, 0);
  }

  private static void answersBearTheMessagesSerial() {
    QuorumRegister x = new QuorumRegister();
    x.write(1, 9);
    Runs.ask(x, 1, 0, 1, 2);
    x.leave(1);
    x.read(1);
    Runs.pass(x, Runs.STORE, 1, 0);
    Runs.dueMessage(x, x.messages() - 1, Runs.STORED, 1, 0, 1, 0, 0);
    Runs.pass(x, Runs.ASK, 1, 3);
    Runs.dueMessage(x, x.messages() - 1, Runs.TELL, 1, 3, 1, 0, 0);
    Runs.pass(x, Runs.ASK, 1, 0);
    Runs.dueMessage(x, x.messages() - 1, Runs.TELL, 1, 0, 2, 5, 9);
  }

  /** Replica 0 holds client 0's first write, replica 1 client 1's: the same number, the greater tag. */
  private static QuorumRegister withTwoTags() {
    QuorumRegister x = new QuorumRegister();
    x.write(0, 100);
    x.write(1, 200);
    Runs.ask(x, 0, 2, 3, 4);
    Runs.ask(x, 1, 2, 3, 4);
    Runs.pass(x, Runs.STORE, 0, 0);
    Runs.pass(x, Runs.STORE, 1, 1);
    x.leave(0);
    x.leave(1);
    Runs.dueReplica(x, 0, 4, 100);
    Runs.dueReplica(x, 1, 5, 200);
    return x;
  }

  private static void greatestTagWins() {
    for (int[] order : new int[][] {{0, 1, 2}, {1, 0, 2}, {2, 1, 0}, {2, 0, 1}}) {
      QuorumRegister x = withTwoTags();
      Runs.clear(x);
      x.read(2);
      Runs.ask(x, 2, order);
      Runs.dueMessage(x, Runs.find(x, Runs.STORE, 2, 3), Runs.STORE, 2, 3, 1, 5, 200);
    }
    QuorumRegister x = withTwoTags();
    Runs.clear(x);
    x.read(2);
    Runs.ask(x, 2, 0, 3, 4);
    Runs.dueMessage(x, Runs.find(x, Runs.STORE, 2, 0), Runs.STORE, 2, 0, 1, 4, 100);
  }

  private static void tagGrowsPastTheTold() {
    QuorumRegister x = withTwoTags();
    Runs.clear(x);
    x.write(2, 300);
    Runs.ask(x, 2, 0, 1, 2);
    Runs.dueMessage(x, Runs.find(x, Runs.STORE, 2, 0), Runs.STORE, 2, 0, 1, 10, 300);
    Runs.store(x, 2, 2, 3, 4);
    Runs.clear(x);
    x.write(1, 400);
    Runs.ask(x, 1, 1, 2, 3);
    Runs.dueMessage(x, Runs.find(x, Runs.STORE, 1, 1), Runs.STORE, 1, 1, 2, 13, 400);
  }

  /** No replica hears of the tags that client 1 makes here; a read between them makes none. */
  private static void tagGrowsPastItsOwn() {
    QuorumRegister x = withTwoTags();
    Runs.clear(x);
    x.write(1, 300);
    Runs.ask(x, 1, 2, 3, 4);
    Runs.dueMessage(x, Runs.find(x, Runs.STORE, 1, 2), Runs.STORE, 1, 2, 2, 9, 300);
    Runs.clear(x);
    x.leave(1);
    x.read(1);
    Runs.ask(x, 1, 0, 1, 2);
    Runs.store(x, 1, 0, 1, 2);
    Runs.dueOperation(x, 0, 1, 3, 0, 200, 5);
    Runs.clear(x);
    x.write(1, 400);
    Runs.ask(x, 1, 0, 1, 2);
    Runs.dueMessage(x, Runs.find(x, Runs.STORE, 1, 1), Runs.STORE, 1, 1, 4, 13, 400);
  }

  private static void othersTagsAreNotItsOwn() {
    QuorumRegister x = withTwoTags();
    Runs.clear(x);
    x.write(2, 300);
    Runs.ask(x, 2, 2, 3, 4);
    Runs.dueMessage(x, Runs.find(x, Runs.STORE, 2, 1), Runs.STORE, 2, 1, 1, 6, 300);
  }

  private static void storeKeepsTheGreater() {
    QuorumRegister x = withTwoTags();
    Due.is("the greater to replica 0", Runs.pass(x, Runs.STORE, 1, 0), 1);
    Runs.dueReplica(x, 0, 5, 200);
    Due.is("the smaller to replica 1", Runs.pass(x, Runs.STORE, 0, 1), 1);
    Runs.dueReplica(x, 1, 5, 200);
    Runs.dueMessage(x, x.messages() - 1, Runs.STORED, 0, 1, 1, 0, 0);
    x.repeat(Runs.find(x, Runs.STORE, 1, 4));
    Runs.pass(x, Runs.STORE, 1, 4);
    Due.is("the same again", Runs.pass(x, Runs.STORE, 1, 4), 1);
    Runs.dueReplica(x, 4, 5, 200);
  }

  private static void storedMakesAQuorum() {
    QuorumRegister x = new QuorumRegister();
    x.write(2, 4);
    Runs.ask(x, 2, 0, 1, 2);
    Runs.store(x, 2, 1);
    Runs.dueClient(x, 2, 2, 2);
    Runs.store(x, 2, 3);
    Runs.dueClient(x, 2, 2, 10);
    Due.is("finished()", x.finished(), 0);
    Runs.pass(x, Runs.STORE, 2, 4);
    Due.is("the third STORED", Runs.pass(x, Runs.STORED, 2, 4), 0);
    Runs.dueClient(x, 2, 0, 0);
    Due.is("finished()", x.finished(), 1);
    Runs.store(x, 2, 0);
    Runs.dueClient(x, 2, 0, 0);
    Due.is("finished() after a late STORED", x.finished(), 1);
  }

  private static void failedReplicaTakesNothing() {
    QuorumRegister x = new QuorumRegister();
    x.write(0, 6);
    x.fail(4);
    Due.is("ASK to a failed one", Runs.pass(x, Runs.ASK, 0, 4), 0);
    Due.is("messages()", x.messages(), 4);
    Runs.ask(x, 0, 0, 1, 2);
    x.fail(3);
    Due.is("STORE to a failed one", Runs.pass(x, Runs.STORE, 0, 3), 0);
    Runs.dueReplica(x, 3, 0, 0);
    Due.is("STORE to one that works", Runs.pass(x, Runs.STORE, 0, 2), 1);
  }

  private static void failedReplicasAnswerStillArrives() {
    QuorumRegister x = new QuorumRegister();
    x.write(0, 6);
    Runs.pass(x, Runs.ASK, 0, 0);
    x.fail(0);
    Runs.pass(x, Runs.TELL, 0, 0);
    Runs.dueClient(x, 0, 1, 1);
    Runs.ask(x, 0, 1, 2);
    Runs.pass(x, Runs.STORE, 0, 1);
    x.fail(1);
    Runs.pass(x, Runs.STORED, 0, 1);
    Runs.dueClient(x, 0, 2, 2);
    Runs.dueReplica(x, 1, 4, 6);
  }

  private static void otherPhaseAndSerialCountNothing() {
    QuorumRegister x = new QuorumRegister();
    x.write(0, 6);
    Runs.ask(x, 0, 0, 1, 2);
    Runs.pass(x, Runs.STORE, 0, 0);
    x.repeat(Runs.find(x, Runs.STORED, 0, 0));
    Runs.ask(x, 0, 3);
    Runs.dueClient(x, 0, 2, 0);
    x.leave(0);
    x.read(0);
    Runs.pass(x, Runs.STORED, 0, 0);
    Runs.dueClient(x, 0, 1, 0);
    for (int r = 0; r < 3; r++) {
      Runs.ask(x, 0, r);
    }
    Runs.dueClient(x, 0, 2, 0);
    Runs.pass(x, Runs.STORED, 0, 0);
    Runs.dueClient(x, 0, 2, 0);
  }

  private static void sentMessagesStandAtTheEnd() {
    QuorumRegister x = new QuorumRegister();
    x.read(1);
    x.deliver(2);
    x.deliver(0);
    int[][] want = {{0, 1}, {0, 3}, {0, 4}, {1, 2}, {1, 0}};
    for (int i = 0; i < want.length; i++) {
      Due.is("kind of " + i, x.message(i, 0), want[i][0]);
      Due.is("replica of " + i, x.message(i, 2), want[i][1]);
    }
  }
}
