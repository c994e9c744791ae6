/** The boundary cases that "Terms" names for TELL and STORED: which of them count, and what the third one does. */
public final class AnswerEdgesTest {
  public static void main(String[] args) {
    tellOfOtherSerial();
    tellToIdleClient();
    tellToStoringClient();
    tellOfOneThatHasAnswered();
    storedOfOtherSerial();
    storedToIdleClient();
    storedToAskingClient();
    storedOfOneThatHasAnswered();
    tellOfGreaterTag();
    tellOfEqualTag();
    tellOfSmallerTag();
    twoTellsAreTooFew();
    thirdTellCounts();
    readKeepsWhatItWasTold();
    firstNumberIsOne();
    toldNumberIsGreater();
    ownNumberIsGreater();
    ownNumberIsToldBack();
    storingStartsWithNoAnswers();
    twoStoredAreTooFew();
    thirdStoredFinishes();
    Due.end();
  }

  private static void tellOfOtherSerial() {
    Due.sentence("TELL: nothing more if the client's serial is not that of the message");
    QuorumRegister x = new QuorumRegister();
    x.read(0);
    x.deliver(0);
    x.leave(0);
    x.write(0, 5);
    Due.is("TELL of serial 1", Runs.pass(x, Runs.TELL, 0, 0), 0);
    Runs.dueClient(x, 0, 1, 0);
    Runs.pass(x, Runs.ASK, 0, 1);
    Runs.dueMessage(x, x.messages() - 1, Runs.TELL, 0, 1, 1, 0, 0);
    Due.is("another TELL of serial 1", x.deliver(x.messages() - 1), 0);
    Runs.dueClient(x, 0, 1, 0);
  }

  private static void tellToIdleClient() {
    Due.sentence("TELL: nothing more if the client is not asking: it is idle");
    QuorumRegister x = new QuorumRegister();
    x.read(0);
    for (int n = 0; n < 4; n++) {
      x.deliver(0);
    }
    x.deliver(1);
    x.deliver(1);
    x.leave(0);
    Due.is("what would be the third TELL, after leave(0)", x.deliver(1), 0);
    Runs.dueClient(x, 0, 0, 0);
    Due.is("messages()", x.messages(), 2);
    QuorumRegister y = new QuorumRegister();
    y.write(1, 5);
    y.deliver(4);
    Runs.ask(y, 1, 0, 1, 2);
    Runs.store(y, 1, 0, 1, 2);
    Runs.dueClient(y, 1, 0, 0);
    Due.is("TELL of 4 after the end", Runs.pass(y, Runs.TELL, 1, 4), 0);
    Runs.dueClient(y, 1, 0, 0);
    Due.is("finished()", y.finished(), 1);
  }

  private static void tellToStoringClient() {
    Due.sentence("TELL: nothing more if the client is not asking: it is storing");
    QuorumRegister x = new QuorumRegister();
    x.write(2, 5);
    x.deliver(4);
    Runs.ask(x, 2, 0, 1, 2);
    Runs.dueClient(x, 2, 2, 0);
    Due.is("the fourth TELL", Runs.pass(x, Runs.TELL, 2, 4), 0);
    Runs.dueClient(x, 2, 2, 0);
    Runs.store(x, 2, 0, 1);
    Due.is("ASK of 3", Runs.pass(x, Runs.ASK, 2, 3), 1);
    Due.is("the fifth TELL", Runs.pass(x, Runs.TELL, 2, 3), 0);
    Runs.dueClient(x, 2, 2, 3);
  }

  private static void tellOfOneThatHasAnswered() {
    Due.sentence("TELL: nothing more if the replica has answered in this phase");
    for (int r = 0; r < 5; r++) {
      QuorumRegister x = new QuorumRegister();
      x.read(1);
      x.repeat(r);
      x.repeat(r);
      for (int n = 0; n < 3; n++) {
        Runs.pass(x, Runs.ASK, 1, r);
        Due.is("TELL of " + r, Runs.pass(x, Runs.TELL, 1, r), 0);
        Runs.dueClient(x, 1, 1, 1 << r);
      }
    }
    // Replica 0 stores between its two TELLs: the second one's greater tag must not reach client 2.
    QuorumRegister x = new QuorumRegister();
    x.read(2);
    x.repeat(0);
    Runs.ask(x, 2, 0);
    x.write(0, 9);
    Runs.ask(x, 0, 1, 2, 3);
    Runs.pass(x, Runs.STORE, 0, 0);
    Runs.pass(x, Runs.ASK, 2, 0);
    Runs.dueMessage(x, x.messages() - 1, Runs.TELL, 2, 0, 1, 4, 9);
    x.deliver(x.messages() - 1);
    Runs.ask(x, 2, 1, 2);
    dueStores(x, 2, 1, 0, 0);
  }

  /** Client 0's first STORED is on its way while the client stores for its second time. */
  private static void storedOfOtherSerial() {
    Due.sentence("STORED: nothing more if the client's serial is not that of the message");
    QuorumRegister x = new QuorumRegister();
    x.write(0, 5);
    Runs.ask(x, 0, 0, 1, 2);
    Runs.pass(x, Runs.STORE, 0, 4);
    x.leave(0);
    int stored = Runs.find(x, Runs.STORED, 0, 4);
    for (int n = 0; n < stored; n++) {
      x.lose(0);
    }
    x.read(0);
    Runs.ask(x, 0, 0, 1, 2);
    Runs.dueMessage(x, 0, Runs.STORED, 0, 4, 1, 0, 0);
    Due.is("STORED of serial 1", x.deliver(0), 0);
    Runs.dueClient(x, 0, 2, 0);
  }

  private static void storedToIdleClient() {
    Due.sentence("STORED: nothing more if the client is not storing: it is idle");
    QuorumRegister x = new QuorumRegister();
    x.write(0, 5);
    Runs.ask(x, 0, 0, 1, 2);
    Runs.store(x, 0, 0, 1);
    Runs.pass(x, Runs.STORE, 0, 2);
    x.leave(0);
    Due.is("what would be the third STORED, after leave(0)", Runs.pass(x, Runs.STORED, 0, 2), 0);
    Runs.dueClient(x, 0, 0, 0);
    Due.is("finished()", x.finished(), 0);
  }

  private static void storedToAskingClient() {
    Due.sentence("STORED: nothing more if the client is not storing: it is asking");
    QuorumRegister x = new QuorumRegister();
    x.write(0, 5);
    Runs.ask(x, 0, 0, 1, 2);
    Runs.pass(x, Runs.STORE, 0, 3);
    x.leave(0);
    x.read(0);
    Due.is("STORED", Runs.pass(x, Runs.STORED, 0, 3), 0);
    Runs.dueClient(x, 0, 1, 0);
  }

  private static void storedOfOneThatHasAnswered() {
    Due.sentence("STORED: nothing more if the replica has answered in this phase");
    for (int r = 0; r < 5; r++) {
      QuorumRegister x = new QuorumRegister();
      x.read(1);
      Runs.ask(x, 1, 0, 1, 2);
      x.repeat(Runs.find(x, Runs.STORE, 1, r));
      x.repeat(Runs.find(x, Runs.STORE, 1, r));
      for (int n = 0; n < 3; n++) {
        Runs.store(x, 1, r);
        Runs.dueClient(x, 1, 2, 1 << r);
      }
      Due.is("finished()", x.finished(), 0);
    }
  }

  /** Replica 0 holds 100 with tag 4, replica 1 300 with tag 6; the others are new, the pool is empty. */
  private static QuorumRegister withTags4And6() {
    QuorumRegister x = new QuorumRegister();
    x.write(0, 100);
    x.write(2, 300);
    Runs.ask(x, 0, 2, 3, 4);
    Runs.ask(x, 2, 2, 3, 4);
    Runs.pass(x, Runs.STORE, 0, 0);
    Runs.pass(x, Runs.STORE, 2, 1);
    x.leave(0);
    x.leave(2);
    Runs.clear(x);
    return x;
  }

  private static void dueStores(QuorumRegister x, int c, int serial, int tag, int value) {
    int first = x.messages() - 5;
    for (int r = 0; r < 5; r++) {
      Runs.dueMessage(x, first + r, Runs.STORE, c, r, serial, tag, value);
    }
  }

  private static void tellOfGreaterTag() {
    Due.sentence("TELL then: if the message's tag is greater than the client's");
    QuorumRegister x = withTags4And6();
    x.read(1);
    Runs.ask(x, 1, 2, 0, 1);
    dueStores(x, 1, 1, 6, 300);
  }

  private static void tellOfEqualTag() {
    Due.sentence("TELL of a tag that is not greater: an equal one");
    QuorumRegister x = new QuorumRegister();
    x.write(2, -4);
    Runs.carry(x, 0);
    Runs.clear(x);
    x.read(1);
    Runs.ask(x, 1, 0, 1, 2);
    dueStores(x, 1, 1, 6, -4);
    QuorumRegister y = new QuorumRegister();
    y.read(1);
    Runs.ask(y, 1, 0, 1, 2);
    dueStores(y, 1, 1, 0, 0);
  }

  private static void tellOfSmallerTag() {
    Due.sentence("TELL of a tag that is not greater: a smaller one");
    QuorumRegister x = withTags4And6();
    x.read(1);
    Runs.ask(x, 1, 1, 0, 2);
    dueStores(x, 1, 1, 6, 300);
  }

  private static void twoTellsAreTooFew() {
    Due.sentence("If three replicas have answered now: two are too few");
    for (int a = 0; a < 5; a++) {
      int b = (a + 2) % 5;
      QuorumRegister x = new QuorumRegister();
      x.write(0, 5);
      Runs.ask(x, 0, a);
      Runs.pass(x, Runs.ASK, 0, b);
      Due.is("the second TELL", Runs.pass(x, Runs.TELL, 0, b), 0);
      Runs.dueClient(x, 0, 1, 1 << a | 1 << b);
    }
  }

  private static void thirdTellCounts() {
    Due.sentence("If three replicas have answered now: any three");
    for (int set = 0; set < 32; set++) {
      if (Integer.bitCount(set) == 3) {
        QuorumRegister x = new QuorumRegister();
        x.write(0, 5);
        int heard = 0;
        for (int r = 0; r < 5; r++) {
          if ((set >> r & 1) == 1) {
            heard++;
            Runs.pass(x, Runs.ASK, 0, r);
            Due.is("TELL of " + r, Runs.pass(x, Runs.TELL, 0, r), heard < 3 ? 0 : 5);
          }
        }
        dueStores(x, 0, 1, 4, 5);
      }
    }
  }

  private static void readKeepsWhatItWasTold() {
    Due.sentence("if the operation writes: a read makes no tag, and keeps the value that it was told");
    QuorumRegister x = withTags4And6();
    x.read(0);
    Runs.ask(x, 0, 0, 3, 4);
    dueStores(x, 0, 2, 4, 100);
    x.leave(0);
    Runs.clear(x);
    x.write(0, 7);
    Runs.ask(x, 0, 2, 3, 4);
    dueStores(x, 0, 3, 8, 7);
  }

  private static void firstNumberIsOne() {
    Due.sentence("the number of the latest tag that it made itself (0 if it made none)");
    for (int c = 0; c < 3; c++) {
      QuorumRegister x = new QuorumRegister();
      x.read(c);
      Runs.ask(x, c, 0, 1, 2);
      x.leave(c);
      Runs.clear(x);
      x.write(c, 7);
      Runs.ask(x, c, 0, 1);
      x.leave(c);
      Runs.clear(x);
      x.write(c, 8);
      Runs.ask(x, c, 0, 1, 2);
      dueStores(x, c, 3, 4 + c, 8);
    }
  }

  private static void toldNumberIsGreater() {
    Due.sentence("n is 1 more than the greater: its tag's number is");
    QuorumRegister x = withTags4And6();
    x.write(1, 7);
    Runs.ask(x, 1, 1, 3, 4);
    dueStores(x, 1, 1, 9, 7);
    Runs.store(x, 1, 2, 3, 4);
    Runs.clear(x);
    x.write(0, 8);
    Runs.ask(x, 0, 2, 3, 4);
    dueStores(x, 0, 2, 12, 8);
  }

  private static void ownNumberIsGreater() {
    Due.sentence("n is 1 more than the greater: the number of its own latest tag is");
    QuorumRegister x = withTags4And6();
    for (int number = 2; number <= 4; number++) {
      x.write(2, number);
      Runs.ask(x, 2, 1, 3, 4);
      dueStores(x, 2, number, 4 * number + 2, number);
      x.leave(2);
      Runs.clear(x);
    }
    Runs.dueReplica(x, 1, 6, 300);
  }

  private static void ownNumberIsToldBack() {
    Due.sentence("n is 1 more than the greater: both are the same");
    QuorumRegister x = withTags4And6();
    x.write(0, 7);
    Runs.ask(x, 0, 0, 1, 2);
    dueStores(x, 0, 2, 8, 7);
  }

  private static void storingStartsWithNoAnswers() {
    Due.sentence("the client is storing, none has answered");
    QuorumRegister x = new QuorumRegister();
    x.write(1, 5);
    Runs.ask(x, 1, 0, 1, 2);
    Runs.dueClient(x, 1, 2, 0);
    for (int n = 0, set = 0; n < 2; n++) {
      set |= 1 << n;
      Runs.store(x, 1, n);
      Runs.dueClient(x, 1, 2, set);
    }
  }

  private static void twoStoredAreTooFew() {
    Due.sentence("STORED then: if three replicas have answered now: two are too few");
    for (int a = 0; a < 5; a++) {
      int b = (a + 2) % 5;
      QuorumRegister x = new QuorumRegister();
      x.write(0, 5);
      Runs.ask(x, 0, 0, 1, 2);
      Runs.store(x, 0, a, b);
      Runs.dueClient(x, 0, 2, 1 << a | 1 << b);
      Due.is("finished()", x.finished(), 0);
    }
  }

  private static void thirdStoredFinishes() {
    Due.sentence("STORED then: if three replicas have answered now, the client is idle, and the operation is FINISHED");
    for (int set = 0; set < 32; set++) {
      if (Integer.bitCount(set) == 3) {
        QuorumRegister x = new QuorumRegister();
        x.write(2, 5);
        Runs.ask(x, 2, 0, 1, 2);
        for (int r = 0; r < 5; r++) {
          if ((set >> r & 1) == 1) {
            Runs.store(x, 2, r);
          }
        }
        Runs.dueClient(x, 2, 0, 0);
        Due.is("finished()", x.finished(), 1);
        Runs.dueOperation(x, 0, 2, 1, 1, 5, 6);
        for (int r = 0; r < 5; r++) {
          if ((set >> r & 1) == 0) {
            Runs.store(x, 2, r);
            Runs.dueReplica(x, r, 6, 5);
          }
        }
        Runs.dueClient(x, 2, 0, 0);
        Due.is("finished() after the fourth and fifth", x.finished(), 1);
      }
    }
  }
}
