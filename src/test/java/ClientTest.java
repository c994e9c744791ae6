/** Promises 14 and 15: phase and answered. */
public final class ClientTest {
  public static void main(String[] args) {
    for (int c = 0; c < 3; c++) {
      goesThroughThePhases(c);
    }
    everyReplicaHasItsBit();
    looksAtNoClient();
    Due.end();
  }

  private static void dueOthersIdle(QuorumRegister x, int c) {
    for (int other = 0; other < 3; other++) {
      if (other != c) {
        Runs.dueClient(x, other, 0, 0);
      }
    }
  }

  private static void goesThroughThePhases(int c) {
    QuorumRegister x = new QuorumRegister();
    Runs.dueClient(x, c, 0, 0);
    x.read(c);
    Runs.dueClient(x, c, 1, 0);
    Runs.pass(x, Runs.ASK, c, 1);
    Runs.dueClient(x, c, 1, 0);
    Runs.pass(x, Runs.TELL, c, 1);
    Runs.dueClient(x, c, 1, 2);
    Runs.ask(x, c, 4);
    Runs.dueClient(x, c, 1, 18);
    Runs.ask(x, c, 3);
    Runs.dueClient(x, c, 2, 0);
    Runs.pass(x, Runs.STORE, c, 2);
    Runs.dueClient(x, c, 2, 0);
    Runs.pass(x, Runs.STORED, c, 2);
    Runs.dueClient(x, c, 2, 4);
    Runs.store(x, c, 0);
    Runs.dueClient(x, c, 2, 5);
    dueOthersIdle(x, c);
    Runs.store(x, c, 1);
    Runs.dueClient(x, c, 0, 0);
    dueOthersIdle(x, c);
    x.write(c, 1);
    Runs.dueClient(x, c, 1, 0);
  }

  private static void everyReplicaHasItsBit() {
    for (int r = 0; r < 5; r++) {
      QuorumRegister x = new QuorumRegister();
      x.write(0, 2);
      Runs.ask(x, 0, r);
      Runs.dueClient(x, 0, 1, 1 << r);
      x.leave(0);
      Runs.dueClient(x, 0, 0, 0);
    }
  }

  private static void looksAtNoClient() {
    QuorumRegister x = new QuorumRegister();
    for (int c = 0; c < 3; c++) {
      x.read(c);
    }
    Runs.dueClient(x, 3, -1, -1);
    for (int c : Runs.NO_INDEX) {
      Runs.dueClient(x, c, -1, -1);
    }
  }
}
