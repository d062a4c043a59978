import com.sun.management.ThreadMXBean;
import java.lang.management.ManagementFactory;
import java.util.function.IntConsumer;

/** What 512 calls of each kind make, and 512 new objects: all calls of a run live in one room. */
public final class RoomTest {
  private static final Check CHECK = new Check();
  private static final int CALLS = 512;
  private static final ThreadMXBean THREADS = (ThreadMXBean) ManagementFactory.getThreadMXBean();

  private static void within(String what, long most, IntConsumer call) {
    call.accept(0);
    long before = THREADS.getCurrentThreadAllocatedBytes();
    for (int i = 0; i < CALLS; i++) {
      call.accept(i);
    }
    long made = THREADS.getCurrentThreadAllocatedBytes() - before;
    CHECK.due(what + " made " + made + " bytes, within " + most, made <= most, true);
  }

  private static String fullTown() {
    StringBuilder sb = new StringBuilder("people 10;year 99");
    for (int i = 0; i < 8; i++) {
      sb.append(";coin 9 ").append(i).append(" 0");
    }
    for (int i = 0; i < 23; i++) {
      sb.append(";meet ").append(i % 9).append(' ').append(i % 10).append(' ').append((i * 3 + 1) % 10 == i % 10 ? (i + 1) % 10 : (i * 3 + 1) % 10);
    }
    return sb.toString();
  }

  public static void main(String[] args) {
    OtherHands x = Check.in(fullTown());
    CHECK.due("COINS", x.count(1), 8);
    CHECK.due("RULE", Check.rule(x, "pay 1=1;home 1=1;bar age*worth/hands+coin-purse*day<giver-taker*99999"), 0);
    x.force(0);
    for (int i = 0; i < 8; i++) {
      x.came(i, 1);
    }
    long little = 65536;
    within("soonest", little, i -> x.soonest(i % 8));
    within("fewest", little, i -> x.fewest(i % 8));
    within("lost", little, i -> x.lost());
    within("strangers", little, i -> x.strangers());
    within("dear", little, i -> x.dear(i % 23));
    within("rings", little, i -> x.rings(6, i % 10));
    within("never", little, i -> x.never(i % 10, 400));
    within("met", little, i -> x.met(i % 3));
    within("ahead", little, i -> x.ahead(0, 400, i % 3));
    within("years", little, i -> x.years(0, 1, 400, i % 2));
    within("image and back", little, i -> x.back(x.image(i % 4) * 0 + i % 4));
    within("run", little, i -> x.run(0, 9));
    within("feed", little, i -> x.feed(i, i, i, i, i));
    within("end", little, i -> x.end(i % 400));
    within("force", little, i -> x.force(i % 2 - 1));
    within("coin", little, i -> x.coin(i % 8, i % 7));
    within("meeting", little, i -> x.meeting(i % 23, i % 3));
    within("person", little, i -> x.person(i % 10, i % 3));
    within("rest", little, i -> x.rest(1));
    within("came", little, i -> x.came(i % 8, i % 3 - 1));
    within("seed and count", little, i -> x.seed(x.count(i % 12)));
    within("a TOWN with a fault", 20 * little, i -> x.town());
    within("a RULE with a fault", little, i -> x.rule());
    OtherHands paid = Check.in("people 2;coin 5 0 0;meet 0 0 1");
    Check.rule(paid, "bar age*worth/hands+coin-purse*day>99999");
    paid.force(0);
    within("pay and home", little, i -> {
      paid.pay(0, 1 - paid.coin(0, 1));
      paid.home(0);
    });
    CHECK.due("it came HOME each time", paid.coin(0, 6), CALLS + 1);
    OtherHands y = new OtherHands();
    within("a TOWN", 20 * little, i -> {
      y.feed(0x70656f70, 0x6c652032, 0x3b636f69, 0x6e203520, 0x30203020);
      y.town();
    });
    CHECK.due("the TOWN stands", y.count(1), 1);
    within("RULES", 2 * little, i -> {
      y.feed(0x70617920, 0x313d3120, 0x20202020, 0x20202020, 0x20202020);
      y.rule();
    });
    CHECK.due("the RULES stand", y.count(5), 6);
    within("a new object", 150 * little, i -> new OtherHands().count(0));
    CHECK.close();
  }
}
