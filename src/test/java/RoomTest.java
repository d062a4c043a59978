import com.sun.management.ThreadMXBean;
import java.lang.management.ManagementFactory;
import java.util.function.IntConsumer;

/** What 512 calls of each kind make: the room of a run is told by LANGUAGE.md and the issues. */
public final class RoomTest {
  private static final Check CHECK = new Check();
  private static final int CALLS = 512;
  private static final ThreadMXBean THREADS = (ThreadMXBean) ManagementFactory.getThreadMXBean();

  private static void within(String what, long most, IntConsumer call) {
    call.accept(0);
    long before = THREADS.getCurrentThreadAllocatedBytes();
    for (int i = 0; i < CALLS; i++) {
      call.accept(i);
    }
    long made = THREADS.getCurrentThreadAllocatedBytes() - before;
    CHECK.due(what + " made " + made + " bytes, within " + most, made <= most, true);
  }

  private static String fullTown() {
    StringBuilder sb = new StringBuilder("people 10;year 99");
    for (int i = 0; i < 8; i++) {
      sb.append(";coin 9 ").append(i).append(" 0");
    }
    for (int i = 0; i < 23; i++) {
      sb.append(";meet ").append(i % 9).append(' ').append(i % 10).append(' ').append((i * 3 + 1) % 10 == i % 10 ? (i + 1) % 10 : (i * 3 + 1) % 10);
    }
    return sb.toString();
  }

  public static void main(String[] args) {
    OtherHands x = Check.in(fullTown());
    CHECK.due("COINS", x.count(1), 8);
    CHECK.due("RULE", Check.rule(x, "pay 1=1;home 1=1;bar age*worth/hands+coin-purse*day<giver-taker*99999"), 0);
    x.force(0);
    for (int i = 0; i < 8; i++) {
      x.came(i, 1);
    }
    long little = 65536;
    within("soonest", little, i -> x.soonest(i % 8));
    within("fewest", little, i -> x.fewest(i % 8));
    within("lost", little, i -> x.lost());
    within("strangers", little, i -> x.strangers());
    within("dear", little, i -> x.dear(i % 23));
    within("rings", little, i -> x.rings(6, i % 10));
    within("never", little, i -> x.never(i % 10, 400));
    within("met", little, i -> x.met(i % 3));
    within("ahead", little, i -> x.ahead(0, 400, i % 3));
    within("years", little, i -> x.years(0, 1, 400, i % 2));
    within("image and back", little, i -> x.back(x.image(i % 4) * 0 + i % 4));
    within("run", little, i -> x.run(0, 9));
    within("feed", little, i -> x.feed(i, i, i, i, i));
    within("a TOWN with a fault", 20 * little, i -> x.town());
    CHECK.close();
  }
}
