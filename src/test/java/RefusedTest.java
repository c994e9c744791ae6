import java.util.ArrayList;
import java.util.List;
import java.util.function.Supplier;
import java.util.function.ToLongFunction;

/**
 * "A refused call changes nothing", for each call that can be refused, and for looks: of two objects that were made
 * alike, one takes the call; then both show the same, and go on to the same end.
 */
public final class RefusedTest {
  public static void main(String[] args) {
    begins(true);
    begins(false);
    leaves();
    delivers();
    loses();
    repeats();
    fails();
    looks();
    Due.end();
  }

  /** One operation finished, client 0 asking, client 1 storing, client 2 idle after a write it left; 17 messages. */
  private static QuorumRegister busy() {
    QuorumRegister x = new QuorumRegister();
    x.write(0, 3);
    Runs.carry(x, 0);
    for (int n = 0; n < 4; n++) {
      x.lose(0);
    }
    x.write(2, 9);
    turnToStoring(x, 0);
    x.leave(2);
    x.write(0, 7);
    x.deliver(7);
    x.deliver(11);
    x.read(1);
    turnToStoring(x, 11);
    x.deliver(13);
    x.deliver(17);
    x.fail(4);
    return x;
  }

  private static void turnToStoring(QuorumRegister x, int pool) {
    for (int first : new int[] {pool, pool + 2}) {
      for (int n = 0; n < 3; n++) {
        x.deliver(first);
      }
    }
  }

  private static QuorumRegister crowded() {
    QuorumRegister x = busy();
    for (int n = 17; n < 61; n++) {
      x.repeat(n % 17);
    }
    return x;
  }

  private static QuorumRegister withTwoFailed() {
    QuorumRegister x = busy();
    x.fail(1);
    return x;
  }

  private static void begins(boolean writes) {
    String name = writes ? "write" : "read";
    Due.sentence("A refused call changes nothing: " + name);
    for (int c : new int[] {-1, 3, Integer.MIN_VALUE, Integer.MAX_VALUE}) {
      refused(name + "(" + c + ")", RefusedTest::busy, x -> begin(x, writes, c), -1);
    }
    refused(name + "(0), asking", RefusedTest::busy, x -> begin(x, writes, 0), -2);
    refused(name + "(1), storing", RefusedTest::busy, x -> begin(x, writes, 1), -2);
    refused(name + "(2), crowded", RefusedTest::crowded, x -> begin(x, writes, 2), -3);
    refused(name + "(3), crowded", RefusedTest::crowded, x -> begin(x, writes, 3), -1);
    refused(name + "(0), asking and crowded", RefusedTest::crowded, x -> begin(x, writes, 0), -2);
  }

  private static long begin(QuorumRegister x, boolean writes, int c) {
    return writes ? x.write(c, 555) : x.read(c);
  }

  private static void leaves() {
    Due.sentence("A refused call changes nothing: leave");
    for (int c : new int[] {-1, 2, 3, Integer.MIN_VALUE, Integer.MAX_VALUE}) {
      refused("leave(" + c + ")", RefusedTest::busy, x -> bit(x.leave(c)), 0);
    }
    refused("leave(0) when new", QuorumRegister::new, x -> bit(x.leave(0)), 0);
  }

  private static void delivers() {
    Due.sentence("A refused call changes nothing: deliver");
    for (int i : new int[] {-1, 17, 18, 60, Integer.MIN_VALUE, Integer.MAX_VALUE}) {
      refused("deliver(" + i + ")", RefusedTest::busy, x -> x.deliver(i), -1);
    }
    refused("deliver(0) when new", QuorumRegister::new, x -> x.deliver(0), -1);
    refused("deliver(61), crowded", RefusedTest::crowded, x -> x.deliver(61), -1);
  }

  private static void loses() {
    Due.sentence("A refused call changes nothing: lose");
    for (int i : new int[] {-1, 17, 18, 60, Integer.MIN_VALUE, Integer.MAX_VALUE}) {
      refused("lose(" + i + ")", RefusedTest::busy, x -> bit(x.lose(i)), 0);
    }
    refused("lose(0) when new", QuorumRegister::new, x -> bit(x.lose(0)), 0);
    refused("lose(61), crowded", RefusedTest::crowded, x -> bit(x.lose(61)), 0);
  }

  private static void repeats() {
    Due.sentence("A refused call changes nothing: repeat");
    for (int i : new int[] {-1, 17, 18, 60, Integer.MIN_VALUE, Integer.MAX_VALUE}) {
      refused("repeat(" + i + ")", RefusedTest::busy, x -> bit(x.repeat(i)), 0);
    }
    refused("repeat(0) when new", QuorumRegister::new, x -> bit(x.repeat(0)), 0);
    for (int i : new int[] {-1, 0, 60, 61}) {
      refused("repeat(" + i + "), crowded", RefusedTest::crowded, x -> bit(x.repeat(i)), 0);
    }
  }

  private static void fails() {
    Due.sentence("A refused call changes nothing: fail");
    for (int r : new int[] {-1, 4, 5, Integer.MIN_VALUE, Integer.MAX_VALUE}) {
      refused("fail(" + r + ")", RefusedTest::busy, x -> bit(x.fail(r)), 0);
    }
    for (int r = 0; r < 5; r++) {
      int third = r;
      refused("fail(" + r + ") after two", RefusedTest::withTwoFailed, x -> bit(x.fail(third)), 0);
    }
  }

  private static void looks() {
    Due.sentence("A refused call changes nothing: looks, right or wrong");
    for (int n : new int[] {-1, 0, 1, 2, 3, 4, 5, 6, 17, 60, Integer.MIN_VALUE, Integer.MAX_VALUE}) {
      refused("looks at " + n, RefusedTest::busy, x -> lookAt(x, n), 0);
    }
  }

  private static long lookAt(QuorumRegister x, int n) {
    x.messages();
    x.message(n, 0);
    x.message(0, n);
    x.tag(n);
    x.value(n);
    x.failed(n);
    x.phase(n);
    x.answered(n);
    x.finished();
    x.operation(n, 0);
    x.operation(0, n);
    return 0;
  }

  private static long bit(boolean answer) {
    return answer ? 1 : 0;
  }

  /** Showing all takes many of the 512 calls, so the ends are looked at on more objects. */
  private static void refused(String name, Supplier<QuorumRegister> make, ToLongFunction<QuorumRegister> call, long want) {
    QuorumRegister x = make.get();
    Due.is(name, call.applyAsLong(x), want);
    dueSame("what is seen after " + name, seen(x), seen(make.get()));
    QuorumRegister y = make.get();
    call.applyAsLong(y);
    dueSame("the end after " + name, end(y), end(make.get()));
    QuorumRegister z = make.get();
    call.applyAsLong(z);
    dueSame("the next writes after " + name, nextWrites(z), nextWrites(make.get()));
  }

  private static void dueSame(String name, List<Integer> got, List<Integer> want) {
    Due.is("the length of " + name, got.size(), want.size());
    for (int i = 0; i < Math.min(got.size(), want.size()); i++) {
      Due.is(name + ", place " + i, got.get(i), want.get(i));
    }
  }

  private static List<Integer> seen(QuorumRegister x) {
    List<Integer> all = new ArrayList<>();
    int messages = x.messages();
    for (int i = 0; i < messages; i++) {
      for (int what = 0; what < 6; what++) {
        all.add(x.message(i, what));
      }
    }
    addReplicasAndFinished(all, x);
    for (int c = 0; c < 3; c++) {
      all.add(x.phase(c));
      all.add(x.answered(c));
    }
    return all;
  }

  private static void addReplicasAndFinished(List<Integer> all, QuorumRegister x) {
    for (int r = 0; r < 5; r++) {
      all.add(x.tag(r));
      all.add(x.value(r));
      all.add((int) bit(x.failed(r)));
    }
    int finished = x.finished();
    for (int n = 0; n < finished; n++) {
      for (int what = 0; what < 5; what++) {
        all.add(x.operation(n, what));
      }
    }
  }

  /** All messages arrive, then each client writes once more: serials, tags and values that can't be looked at show. */
  private static List<Integer> end(QuorumRegister x) {
    List<Integer> all = new ArrayList<>();
    addDeliveries(all, x);
    for (int c = 0; c < 3; c++) {
      all.add(x.write(c, 900 + c));
      addDeliveries(all, x);
    }
    addReplicasAndFinished(all, x);
    return all;
  }

  /** All give up and all messages are lost, so that no replica's tag hides the latest one that a client made itself. */
  private static List<Integer> nextWrites(QuorumRegister x) {
    List<Integer> all = new ArrayList<>();
    for (int c = 0; c < 3; c++) {
      x.leave(c);
    }
    Runs.clear(x);
    for (int c = 0; c < 3; c++) {
      all.add(x.write(c, 900 + c));
      turnToStoring(x, 0);
      for (int what = 0; what < 6; what++) {
        all.add(x.message(6, what));
      }
      Runs.clear(x);
    }
    return all;
  }

  private static void addDeliveries(List<Integer> all, QuorumRegister x) {
    int sent = 0;
    while (sent >= 0) {
      sent = x.deliver(0);
      all.add(sent);
    }
  }
}
