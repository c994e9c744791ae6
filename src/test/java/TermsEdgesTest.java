/** The boundary cases that "What it is" and "Terms" name, a test for each sentence. */
public final class TermsEdgesTest {
  private static final int MIN = Integer.MIN_VALUE;
  private static final int MAX = Integer.MAX_VALUE;

  public static void main(String[] args) {
    call512IsAnswered();
    call511HasItsEffect();
    firstAndLastReplica();
    firstAndLastClient();
    tagIsMadeOfNumberAndClient();
    valueIsAnyInt();
    serialCountsWhatBegan();
    askAndStoredBearNothing();
    poolIsCountedFromZero();
    beginAsksFailedReplicasToo();
    beginStartsFromNothing();
    deliveredMessageLeavesInAnyCase();
    askToFailedReplica();
    storeToFailedReplica();
    answersBearTheMessagesSerial();
    storeOfGreaterTag();
    storeOfEqualTag();
    storeOfSmallerTag();
    numbersNeverWrap();
    Due.end();
  }

  /** 17 calls, then as many looks as make 511. Pool: ASK and STORE of 0 to 3 and 4, ASK of 1 to 0, 2, 3 and 4. */
  private static QuorumRegister after511() {
    QuorumRegister x = new QuorumRegister();
    x.write(0, 50);
    Runs.carry(x, 0);
    x.read(1);
    x.fail(0);
    x.deliver(5);
    x.deliver(8);
    for (int n = 17; n < 511; n++) {
      x.messages();
    }
    return x;
  }

  private static void call512IsAnswered() {
    Due.sentence("An object is used for at most 512 calls: the 512th");
    Due.is("write(2, 9)", after511().write(2, 9), 1);
    Due.is("read(0)", after511().read(0), 2);
    Due.is("leave(1)", after511().leave(1), true);
    Due.is("deliver(0)", after511().deliver(0), 1);
    Due.is("deliver(8)", after511().deliver(8), -1);
    Due.is("lose(7)", after511().lose(7), true);
    Due.is("repeat(7)", after511().repeat(7), true);
    Due.is("fail(4)", after511().fail(4), true);
    Due.is("messages()", after511().messages(), 8);
    Due.is("message(7, 2)", after511().message(7, 2), 4);
    Due.is("tag(2)", after511().tag(2), 4);
    Due.is("value(2)", after511().value(2), 50);
    Due.is("failed(0)", after511().failed(0), true);
    Due.is("phase(1)", after511().phase(1), 1);
    Due.is("answered(1)", after511().answered(1), 2);
    Due.is("finished()", after511().finished(), 1);
    Due.is("operation(0, 3)", after511().operation(0, 3), 50);
  }

  private static void call511HasItsEffect() {
    Due.sentence("An object is used for at most 512 calls: the 512th sees what the 511th did");
    QuorumRegister x = new QuorumRegister();
    for (int n = 0; n < 510; n++) {
      x.messages();
    }
    x.write(2, 9);
    Due.is("messages()", x.messages(), 5);
    QuorumRegister y = new QuorumRegister();
    y.write(2, 9);
    for (int n = 1; n < 499; n++) {
      y.messages();
    }
    Runs.carry(y, 0);
    Due.is("operation(0, 3)", y.operation(0, 3), 9);
  }

  private static void firstAndLastReplica() {
    Due.sentence("REPLICAS 0 .. 4");
    for (int r : new int[] {0, 4}) {
      QuorumRegister x = new QuorumRegister();
      x.write(0, 8);
      Runs.ask(x, 0, 1, 2, 3);
      Runs.store(x, 0, r);
      Runs.dueReplica(x, r, 4, 8);
      Runs.dueClient(x, 0, 2, 1 << r);
      Due.is("fail(" + r + ")", x.fail(r), true);
      Due.is("failed(" + r + ")", x.failed(r), true);
    }
  }

  private static void firstAndLastClient() {
    Due.sentence("CLIENTS 0 .. 2");
    for (int c : new int[] {0, 2}) {
      QuorumRegister x = new QuorumRegister();
      Due.is("write(" + c + ", 8)", x.write(c, 8), 1);
      Runs.dueClient(x, c, 1, 0);
      Due.is("leave(" + c + ")", x.leave(c), true);
      Due.is("read(" + c + ")", x.read(c), 2);
    }
  }

  private static void tagIsMadeOfNumberAndClient() {
    Due.sentence("A TAG is an int: 4 * its number + a client");
    for (int c = 0; c < 3; c++) {
      QuorumRegister x = new QuorumRegister();
      for (int number = 1; number <= 3; number++) {
        x.write(c, 8);
        Runs.carry(x, 0);
        Runs.clear(x);
        Due.is("tag(0)", x.tag(0), 4 * number + c);
        Due.is("the stamp", x.operation(number - 1, 4), 4 * number + c);
      }
    }
  }

  private static void valueIsAnyInt() {
    Due.sentence("A replica has a tag and a value (any int)");
    for (int v : new int[] {MIN, MIN + 1, -2, -1, 0, 1, 255, 256, 65536, MAX - 1, MAX}) {
      QuorumRegister x = new QuorumRegister();
      x.write(0, v);
      Runs.carry(x, 0);
      Runs.clear(x);
      Due.is("value(1)", x.value(1), v);
      x.read(1);
      x.deliver(1);
      Due.is("the value of TELL", x.message(4, 5), v);
      x.deliver(4);
      Runs.ask(x, 1, 3, 4);
      Due.is("the value of STORE", x.message(x.messages() - 1, 5), v);
      Runs.store(x, 1, 2, 3, 4);
      Due.is("value(4)", x.value(4), v);
      Due.is("the result of the write", x.operation(0, 3), v);
      Due.is("the result of the read", x.operation(1, 3), v);
    }
  }

  private static void serialCountsWhatBegan() {
    Due.sentence("SERIAL, the number of the operations that it began");
    QuorumRegister x = new QuorumRegister();
    x.write(3, 1);
    x.read(-1);
    Due.is("read(0), after calls for no client", x.read(0), 1);
    x.write(0, 1);
    x.read(0);
    x.leave(0);
    Due.is("write(0, 1), after one that it left and two refused", x.write(0, 1), 2);
    Due.is("read(1), another client's first", x.read(1), 1);
    Due.is("read(2), another client's first", x.read(2), 1);
    x.leave(2);
    Runs.fill(x, 61);
    x.write(2, 1);
    x.read(2);
    x.lose(0);
    Due.is("read(2), after two refused at 61", x.read(2), 2);
  }

  private static void askAndStoredBearNothing() {
    Due.sentence("Tag and value of ASK and STORED are 0");
    QuorumRegister x = new QuorumRegister();
    x.write(2, 9);
    Runs.carry(x, 0);
    Runs.clear(x);
    x.write(2, 10);
    for (int r = 0; r < 5; r++) {
      Runs.dueMessage(x, r, Runs.ASK, 2, r, 2, 0, 0);
    }
    Runs.ask(x, 2, 0, 1, 2);
    for (int r : new int[] {0, 4}) {
      Runs.pass(x, Runs.STORE, 2, r);
      Runs.dueReplica(x, r, 10, 10);
      Runs.dueMessage(x, x.messages() - 1, Runs.STORED, 2, r, 2, 0, 0);
    }
  }

  private static void poolIsCountedFromZero() {
    Due.sentence("The POOL is the row of messages, in the order in which they were sent, counted from 0");
    QuorumRegister x = new QuorumRegister();
    x.read(2);
    x.read(0);
    Runs.dueMessage(x, 0, Runs.ASK, 2, 0, 1, 0, 0);
    Runs.dueMessage(x, 9, Runs.ASK, 0, 4, 1, 0, 0);
    x.deliver(0);
    Runs.dueMessage(x, 0, Runs.ASK, 2, 1, 1, 0, 0);
    Runs.dueMessage(x, 8, Runs.ASK, 0, 4, 1, 0, 0);
    Runs.dueMessage(x, 9, Runs.TELL, 2, 0, 1, 0, 0);
    Due.is("message(-1, 0)", x.message(-1, 0), -1);
    Due.is("message(10, 0)", x.message(10, 0), -1);
  }

  private static void beginAsksFailedReplicasToo() {
    Due.sentence("ASK is sent to the replicas 0, 1, 2, 3, 4, in this order: to failed ones too, and STORE alike");
    QuorumRegister x = new QuorumRegister();
    x.fail(4);
    x.fail(0);
    x.write(1, 3);
    Due.is("messages()", x.messages(), 5);
    for (int r = 0; r < 5; r++) {
      Runs.dueMessage(x, r, Runs.ASK, 1, r, 1, 0, 0);
    }
    Runs.ask(x, 1, 3, 2);
    Runs.pass(x, Runs.ASK, 1, 1);
    Due.is("the third TELL", Runs.pass(x, Runs.TELL, 1, 1), 5);
    for (int r = 0; r < 5; r++) {
      Runs.dueMessage(x, 2 + r, Runs.STORE, 1, r, 1, 5, 3);
    }
  }

  /** What client 0 heard before it left is a tag and two answers; none of it may reach its next operation. */
  private static void beginStartsFromNothing() {
    Due.sentence("To BEGIN an operation: none has answered, its tag and value are 0");
    QuorumRegister x = new QuorumRegister();
    x.write(1, 9);
    Runs.ask(x, 1, 0, 1, 2);
    Runs.store(x, 1, 0);
    Runs.clear(x);
    x.read(0);
    Runs.ask(x, 0, 0, 1);
    Runs.dueClient(x, 0, 1, 3);
    x.leave(0);
    Runs.clear(x);
    x.read(0);
    Runs.dueClient(x, 0, 1, 0);
    Runs.ask(x, 0, 2, 3);
    Runs.dueClient(x, 0, 1, 12);
    Runs.ask(x, 0, 4);
    Runs.dueMessage(x, x.messages() - 1, Runs.STORE, 0, 4, 2, 0, 0);
  }

  private static void deliveredMessageLeavesInAnyCase() {
    Due.sentence("To DELIVER a message: it leaves the pool");
    QuorumRegister x = new QuorumRegister();
    x.write(0, 6);
    x.fail(4);
    Due.is("ASK to a failed one", x.deliver(4), 0);
    Due.is("messages()", x.messages(), 4);
    x.repeat(0);
    x.deliver(0);
    x.deliver(3);
    Due.is("messages(), ASK of 1, 2, 3 and TELL of 0 twice", x.messages(), 5);
    x.deliver(4);
    Due.is("TELL of one that has answered", x.deliver(3), 0);
    Due.is("messages()", x.messages(), 3);
    Runs.ask(x, 0, 1, 2);
    Due.is("messages(), ASK of 3 and five STOREs", x.messages(), 6);
    Due.is("STORE to a failed one", x.deliver(5), 0);
    Due.is("messages()", x.messages(), 5);
    x.leave(0);
    x.deliver(4);
    Due.is("STORED to one that left", x.deliver(4), 0);
    Due.is("messages()", x.messages(), 4);
  }

  private static void askToFailedReplica() {
    Due.sentence("ASK to a replica that has failed: nothing more");
    for (int r = 0; r < 5; r++) {
      QuorumRegister x = new QuorumRegister();
      x.read(0);
      x.fail(r);
      Due.is("deliver(" + r + ")", x.deliver(r), 0);
      Due.is("messages()", x.messages(), 4);
      Runs.dueClient(x, 0, 1, 0);
    }
  }

  private static void storeToFailedReplica() {
    Due.sentence("STORE to a replica that has failed: nothing more");
    for (int r = 0; r < 5; r++) {
      QuorumRegister x = new QuorumRegister();
      x.write(0, 6);
      Runs.ask(x, 0, 0, 1, 2);
      x.fail(r);
      Due.is("STORE", Runs.pass(x, Runs.STORE, 0, r), 0);
      Runs.dueReplica(x, r, 0, 0);
      Due.is("messages()", x.messages(), 6);
      Runs.dueClient(x, 0, 2, 0);
    }
  }

  private static void answersBearTheMessagesSerial() {
    Due.sentence("sends TELL, STORED to the client, with the message's serial: not with the client's of now");
    QuorumRegister x = new QuorumRegister();
    x.write(0, 6);
    Runs.ask(x, 0, 0, 1, 2);
    x.leave(0);
    x.read(0);
    x.leave(0);
    x.read(0);
    x.deliver(0);
    Runs.dueMessage(x, x.messages() - 1, Runs.TELL, 0, 3, 1, 0, 0);
    x.deliver(1);
    Runs.dueMessage(x, x.messages() - 1, Runs.STORED, 0, 0, 1, 0, 0);
  }

  /** Clients 0 and 2 store at the same number, 100 with tag 4 and 300 with tag 6; their STOREs are in the pool. */
  private static QuorumRegister withTags4And6() {
    QuorumRegister x = new QuorumRegister();
    x.write(0, 100);
    x.write(2, 300);
    Runs.ask(x, 0, 0, 1, 2);
    Runs.ask(x, 2, 0, 1, 2);
    return x;
  }

  private static void storeOfGreaterTag() {
    Due.sentence("STORE: if the message's tag is greater than the replica's");
    QuorumRegister x = withTags4And6();
    Due.is("tag 4 to a replica with 0", Runs.pass(x, Runs.STORE, 0, 3), 1);
    Runs.dueReplica(x, 3, 4, 100);
    Due.is("tag 6 to a replica with 4", Runs.pass(x, Runs.STORE, 2, 3), 1);
    Runs.dueReplica(x, 3, 6, 300);
  }

  private static void storeOfEqualTag() {
    Due.sentence("STORE of a tag that is not greater: an equal one");
    QuorumRegister x = withTags4And6();
    x.repeat(Runs.find(x, Runs.STORE, 0, 3));
    Runs.pass(x, Runs.STORE, 0, 3);
    Due.is("the same once more", Runs.pass(x, Runs.STORE, 0, 3), 1);
    Runs.dueMessage(x, x.messages() - 1, Runs.STORED, 0, 3, 1, 0, 0);
    Runs.dueReplica(x, 3, 4, 100);
    QuorumRegister y = new QuorumRegister();
    y.read(1);
    Runs.ask(y, 1, 0, 1, 2);
    Due.is("tag 0 to a new replica", Runs.pass(y, Runs.STORE, 1, 4), 1);
    Runs.dueMessage(y, y.messages() - 1, Runs.STORED, 1, 4, 1, 0, 0);
    Runs.dueReplica(y, 4, 0, 0);
  }

  private static void storeOfSmallerTag() {
    Due.sentence("STORE of a tag that is not greater: a smaller one; in any case it sends STORED");
    QuorumRegister x = withTags4And6();
    Runs.pass(x, Runs.STORE, 2, 3);
    Due.is("tag 4 to a replica with 6", Runs.pass(x, Runs.STORE, 0, 3), 1);
    Runs.dueReplica(x, 3, 6, 300);
    Runs.dueMessage(x, x.messages() - 1, Runs.STORED, 0, 3, 1, 0, 0);
    x.deliver(x.messages() - 1);
    Runs.dueClient(x, 0, 2, 8);
  }

  /** As many tags as 512 calls can make: 8 calls for each, and 7 messages lost where the pool would refuse. */
  private static void numbersNeverWrap() {
    Due.sentence("Tags' numbers never pass what an int holds");
    QuorumRegister x = new QuorumRegister();
    for (int number = 1; number <= 31; number++) {
      x.write(2, number);
      for (int first : new int[] {0, 2}) {
        for (int n = 0; n < 3; n++) {
          x.deliver(first);
        }
      }
      Due.is("the tag of write " + number, x.message(6, 4), 4 * number + 2);
      x.leave(2);
      for (int n = 0; n < 7; n++) {
        x.lose(0);
      }
    }
  }
}
