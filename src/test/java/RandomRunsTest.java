import java.util.Random;

/** All promises: runs of 512 calls, drawn from fixed seeds, answer what the model answers. */
public final class RandomRunsTest {
  private static final int RUNS = 6000;
  private static final int CALLS = 512;
  private static final int[] ODD = {-1, -2, 3, 5, 6, 60, 61, 64, 77, 100, Integer.MAX_VALUE, Integer.MIN_VALUE};

  private final QuorumRegister x = new QuorumRegister();
  private final Model model = new Model();
  private final Random random;
  private final int seed;
  /** Some runs lose and repeat much, some little, so that both crowded pools and many finished operations come up. */
  private final int disorder;
  private final int looks;

  private RandomRunsTest(int seed) {
    this.seed = seed;
    random = new Random(seed);
    disorder = seed % 5;
    looks = 1 + seed % 7;
  }

  public static void main(String[] args) {
    int most = 0;
    int fullest = 0;
    for (int seed = 0; seed < RUNS && Due.wrong() < 10; seed++) {
      RandomRunsTest run = new RandomRunsTest(seed);
      for (int n = 0; n < CALLS; n++) {
        run.call(n);
        fullest = Math.max(fullest, run.model.messages());
      }
      most = Math.max(most, run.model.finished());
    }
    System.out.println("up to " + most + " finished, up to " + fullest + " messages");
    Due.end();
  }

  private void call(int n) {
    String where = "seed " + seed + ", call " + n + ": ";
    if (random.nextInt(10) < looks) {
      look(where);
    } else {
      act(where);
    }
  }

  private int below(int bound) {
    if (random.nextInt(25) == 0) {
      return ODD[random.nextInt(ODD.length)];
    }
    return random.nextInt(Math.max(bound, 1));
  }

  private int anyMessage() {
    int messages = model.messages();
    // The newest messages are the likeliest to count; a run of old ones alone would finish nothing.
    if (random.nextBoolean() && messages > 8) {
      return messages - 1 - random.nextInt(8);
    }
    return below(messages);
  }

  private int anyValue() {
    return random.nextInt(4) == 0 ? ODD[random.nextInt(ODD.length)] : random.nextInt(1000) - 500;
  }

  private void act(String where) {
    int draw = random.nextInt(100);
    if (draw < 12) {
      int c = below(3);
      if (random.nextBoolean()) {
        int v = anyValue();
        Due.is(where + "write(" + c + ", " + v + ")", x.write(c, v), model.write(c, v));
      } else {
        Due.is(where + "read(" + c + ")", x.read(c), model.read(c));
      }
    } else if (draw < 14) {
      int c = below(3);
      Due.is(where + "leave(" + c + ")", x.leave(c), model.leave(c));
    } else if (draw < 15) {
      int r = below(5);
      Due.is(where + "fail(" + r + ")", x.fail(r), model.fail(r));
    } else if (draw < 15 + 3 * disorder) {
      int i = anyMessage();
      Due.is(where + "lose(" + i + ")", x.lose(i), model.lose(i));
    } else if (draw < 15 + 10 * disorder) {
      int i = anyMessage();
      Due.is(where + "repeat(" + i + ")", x.repeat(i), model.repeat(i));
    } else {
      int i = anyMessage();
      Due.is(where + "deliver(" + i + ")", x.deliver(i), model.deliver(i));
    }
  }

  private void look(String where) {
    int what = below(6);
    int i = below(model.messages());
    int n = below(model.finished());
    int r = below(5);
    int c = below(3);
    switch (random.nextInt(9)) {
      case 0: Due.is(where + "messages()", x.messages(), model.messages()); break;
      case 1: Due.is(where + "message(" + i + ", " + what + ")", x.message(i, what), model.message(i, what)); break;
      case 2: Due.is(where + "tag(" + r + ")", x.tag(r), model.tag(r)); break;
      case 3: Due.is(where + "value(" + r + ")", x.value(r), model.value(r)); break;
      case 4: Due.is(where + "failed(" + r + ")", x.failed(r), model.failed(r)); break;
      case 5: Due.is(where + "phase(" + c + ")", x.phase(c), model.phase(c)); break;
      case 6: Due.is(where + "answered(" + c + ")", x.answered(c), model.answered(c)); break;
      case 7: Due.is(where + "finished()", x.finished(), model.finished()); break;
      default: Due.is(where + "operation(" + n + ", " + what + ")", x.operation(n, what), model.operation(n, what)); break;
    }
  }
}
