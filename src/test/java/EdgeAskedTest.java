/** The edges of what is asked, of draws and of images: promises 15 to 28 and the terms' part III. */
public final class EdgeAskedTest {
  private static final Check CHECK = new Check();
  private static final int NONE = OtherHands.NONE;

  private static void due(String call, long got, long want) {
    CHECK.due(call, got, want);
  }

  /** A TOWN with a RULE that is IN FORCE. */
  private static OtherHands barred(String town, String rule) {
    OtherHands x = Check.in(town);
    due("rule \"" + rule + "\"", Check.rule(x, rule), 0);
    x.force(0);
    return x;
  }

  private static void arguments() {
    CHECK.says("15: NONE without it");
    CHECK.refuses("soonest", NONE, n -> y -> y.soonest(n), -1, 2, 8);
    CHECK.says("16: NONE without it");
    CHECK.refuses("fewest", NONE, n -> y -> y.fewest(n), -1, 2, 8);
    CHECK.says("19: NONE without that MEETING");
    CHECK.refuses("dear", NONE, n -> y -> y.dear(n), -1, 3, 24);
    CHECK.says("20: NONE without these");
    CHECK.refuses("rings of n", NONE, n -> y -> y.rings(n, 0), -1, 0, 2, 7);
    CHECK.refuses("rings through", NONE, n -> y -> y.rings(3, n), -1, 3, 10);
    CHECK.says("21: NONE without these");
    CHECK.refuses("never in n", NONE, n -> y -> y.never(0, n), -1, 0, 401);
    CHECK.refuses("never of", NONE, n -> y -> y.never(n, 1), -1, 3, 10);
    CHECK.says("22: false, and nothing happens, without these");
    CHECK.refuses("came of", 0, n -> y -> y.came(n, 0) ? 1 : 0, -1, 2, 8);
    CHECK.refuses("came how", 0, n -> y -> y.came(0, n) ? 1 : 0, -2, 2);
    CHECK.says("23: NONE without these");
    CHECK.refuses("met", NONE, n -> y -> y.met(n), -1, 3);
    CHECK.says("25: NONE without these");
    CHECK.refuses("years by", NONE, n -> y -> y.years(n, 1, 1, 0), -1, 2, 6);
    CHECK.refuses("years m", NONE, n -> y -> y.years(1, n, 1, 0), -1, 0, 11);
    CHECK.refuses("years n", NONE, n -> y -> y.years(1, 1, n, 0), -1, 0, 401);
    CHECK.refuses("years what", NONE, n -> y -> y.years(1, 1, 1, n), -1, 2);
    CHECK.says("26: NONE for others");
    CHECK.refuses("count", NONE, n -> y -> y.count(n), -1, 12);
  }

  private static void nothingChanges() {
    CHECK.says("By what is asked nothing changes");
    CHECK.changesNothing("soonest", 2, y -> y.soonest(0));
    CHECK.changesNothing("fewest", 0, y -> y.fewest(1));
    CHECK.changesNothing("lost", 0, y -> y.lost());
    CHECK.changesNothing("strangers", 0, y -> y.strangers());
    CHECK.changesNothing("dear", 0, y -> y.dear(0));
    CHECK.changesNothing("rings", 1, y -> y.rings(3, 2));
    CHECK.changesNothing("never", 5, y -> y.never(2, 400));
    CHECK.changesNothing("met", 6, y -> y.met(0));
    CHECK.changesNothing("years", 20, y -> y.years(0, 10, 400, 1));
    CHECK.changesNothing("count", 2, y -> y.count(3));
  }

  private static void soonest() {
    CHECK.says("SOONEST: by being PAID at MEETINGS of this day and later");
    OtherHands x = Check.in("people 2;coin 1 0 0;meet 4 0 1");
    due("later", x.soonest(0), 4);
    x.rest(3);
    due("a day ahead", x.soonest(0), 4);
    x.rest(1);
    due("on this day", x.soonest(0), 4);
    due("by one", x.fewest(0), 1);
    x.rest(1);
    due("gone by", x.soonest(0), -2);
    due("gone by", x.fewest(0), -2);
    due("by one, asked at first", Check.in("people 2;coin 1 0 0;meet 4 0 1").fewest(0), 1);
    x = Check.in("people 2;coin 1 0 0;coin 1 1 0;meet 4 0 1;meet 400 1 0");
    x.pay(0, 1);
    due("one", x.soonest(0), 4);
    due("the other one", x.fewest(1), 1);
    due("on day 0", Check.in("people 2;coin 1 1 0;meet 0 0 1").soonest(0), 0);
    due("on day 1999", Check.in("people 2;year 999;coin 1 1 999;meet 1998 0 1;meet 1999 0 1").soonest(0), 1998);
    due("VOID on day 1999", Check.in("people 2;year 999;coin 1 1 999;meet 1999 0 1").soonest(0), -2);
    x = Check.in("people 2;year 999;coin 1 1 999;meet 999 0 1;meet 1999 0 1");
    x.rest(999);
    x.rest(1);
    due("VOID then", x.soonest(0), -2);

    CHECK.says("SOONEST: on this day, if it is NEW to who has it and may be brought HOME");
    x = Check.in("people 3;coin 1 0 0;meet 4 0 1;meet 6 1 2");
    x.rest(4);
    x.pay(0, 1);
    due("on this day", x.soonest(0), 4);
    due("0: on this day, without", x.fewest(0), 0);
    x.rest(361);
    due("on the last day", x.soonest(0), 365);
    due("0: on this day, without", x.fewest(0), 0);
    x.rest(1);
    due("VOID", x.soonest(0), -2);
    due("VOID", x.fewest(0), -2);
    x = barred("people 3;coin 1 0 0;meet 4 0 1;meet 6 1 2", "bar day=4 and giver=taker");
    x.rest(4);
    x.pay(0, 1);
    due("barred on this day", x.soonest(0), 6);
    due("barred on this day", x.fewest(0), 1);
  }

  private static void ways() {
    CHECK.says("SOONEST: by their days, of one day in the order told");
    String start = "people 3;coin 1 0 0;meet 0 0 1";
    String[] later = {";meet 3 1 2;meet 3 0 1", ";meet 3 0 1;meet 3 1 2", ";meet 4 1 2;meet 3 0 1", ";meet 3 1 2;meet 4 0 1"};
    int[] day = {-2, 3, 4, -2};
    for (int i = 0; i < later.length; i++) {
      OtherHands x = Check.in(start + later[i]);
      x.pay(0, 1);
      x.pay(0, 0);
      x.rest(1);
      due("soonest" + later[i], x.soonest(0), day[i]);
      due("fewest" + later[i], x.fewest(0), day[i] < 0 ? -2 : 2);
      due("lost" + later[i], x.lost(), day[i] < 0 ? 1 : 0);
    }

    OtherHands y = Check.in("people 3;coin 1 0 0;meet 9 1 2;meet 8 0 1");
    due("the first told is the later one", y.soonest(0), 8);
    due("it comes behind", y.dear(1), 1);
    y = Check.in("people 2;coin 1 0 0;meet 9 0 1;meet 8 0 1;meet 7 0 1");
    due("the last told is the first", y.soonest(0), 7);

    CHECK.says("SOONEST: at MEETINGS, from the one to the other or back (it may stay where it is, too)");
    String known = "people 4;coin 1 0 0;meet 0 0 1;";
    String[] ways = {"meet 3 0 1;meet 4 0 2", "meet 3 1 0;meet 4 0 2", "meet 3 0 1;meet 4 1 2", "meet 3 1 0;meet 4 1 2",
        "meet 3 0 1;meet 4 2 0", "meet 3 1 0;meet 4 2 0", "meet 3 0 1;meet 4 2 1", "meet 3 1 0;meet 4 2 1"};
    for (int i = 0; i < ways.length; i++) {
      y = Check.in(known + ways[i]);
      y.pay(0, 1);
      y.pay(0, 0);
      y.rest(1);
      due("by " + ways[i], y.fewest(0), i % 4 < 2 ? 1 : 2);
      due("by " + ways[i], y.soonest(0), 4);
      due("the first of these is DEAR " + ways[i], y.dear(1), i % 4 < 2 ? 0 : 1);
      due("the second of these is DEAR " + ways[i], y.dear(2), 1);
    }

    CHECK.says("SOONEST: among its HANDS till it is PAID to somebody to whom it is NEW, who brings it HOME on that very day");
    OtherHands x = barred("people 3;coin 1 0 0;meet 2 0 1;meet 3 1 2", "bar giver=1 and taker=1");
    due("not by one who is not among its HANDS", x.soonest(0), -2);
    x = barred("people 2;coin 1 0 0;meet 2 0 1", "bar giver=taker and day=2");
    due("not on a later day", x.soonest(0), -2);
    x = barred("people 2;coin 1 0 0;meet 2 0 1", "bar giver=taker and day=3");
    due("on that very day", x.soonest(0), 2);

    CHECK.says("FEWEST: the fewest times it is PAID so, on whatever day");
    StringBuilder sb = new StringBuilder("people 10;coin 6 0 0");
    for (int i = 0; i < 17; i++) {
      sb.append(";meet ").append(i / 8 > 0 ? 1 : 0).append(' ').append(i % 8 + i / 16 * 8).append(' ').append(i % 8 + i / 16 * 8 + 1);
    }
    x = Check.in(sb.toString());
    for (int i = 1; i <= 16; i++) {
      due("pay", x.pay(0, i <= 8 ? i : 16 - i), 0);
    }
    x.rest(1);
    due("HANDS", x.coin(0, 3), 511);
    due("soonest", x.soonest(0), 1);
    due("by nine", x.fewest(0), 9);
    due("the first of them is DEAR", x.dear(8), 6);
    due("the last of them is DEAR", x.dear(16), 6);
    due("one gone by is not", x.dear(0), 0);
    x = Check.in("people 4;coin 6 0 0" + ";meet 1 2 3".repeat(23) + ";meet 1 1 0");
    due("by the last of 24", x.fewest(0), 1);
    x = Check.in("people 4;coin 1 0 0;meet 1 0 1;meet 2 0 1");
    due("by one", x.fewest(0), 1);
    Check.town(x, "people 4;coin 1 0 0;meet 1 2 3");
    due("by none of another TOWN", x.fewest(0), -2);
    due("by none of another TOWN", x.soonest(0), -2);
    x = Check.in("people 4;coin 1 0 0;coin 1 2 0;meet 1 0 1;meet 2 0 3");
    due("by one", x.fewest(0), 1);
    due("by none of another COIN", x.fewest(1), -2);

    CHECK.says("LAW 3 is asked at each: purse: how many COINS who has it then has now");
    x = barred("people 2;coin 1 0 0;coin 1 1 0;coin 1 1 0;meet 2 0 1", "bar giver=taker and purse=2");
    due("without the one that would come", x.soonest(0), -2);
    x = barred("people 2;coin 1 0 0;coin 1 1 0;coin 1 1 0;meet 2 0 1", "bar giver=taker and not purse=2");
    due("without the one that would come", x.soonest(0), 2);
    x = barred("people 2;coin 1 0 0;meet 2 0 1", "bar giver=0 and taker=1 and not purse=1");
    due("with itself, where it is now", x.soonest(0), 2);
    x = barred("people 2;coin 1 0 0;meet 2 0 1", "bar giver=1 and not purse=0");
    due("an empty purse", x.soonest(0), 2);

    CHECK.says("LAW 3 is asked at each: day and age of that day, HANDS as they would be");
    String all = "coin=0 and worth=1 and strange=1 and day=2 and age=2-1";
    x = barred("people 2;coin 1 0 1;meet 2 0 1", "bar giver=0 and taker=1 and not [" + all + " and hands=1]");
    due("as it is to be paid", x.soonest(0), 2);
    x = barred("people 2;coin 1 0 1;meet 2 0 1", "bar giver=1 and not [taker=1 and " + all + " and hands=2]");
    due("as it is to be brought home", x.soonest(0), 2);
    for (int taker = 0; taker < 3; taker++) {
      if (taker != 1) {
        x = barred("people 3;coin 1 1 1;meet 2 1 " + taker, "bar giver=taker and not hands=2");
        due("HANDS with the one who brings it home, " + taker, x.soonest(0), 2);
        x = barred("people 3;coin 1 1 1;meet 2 " + taker + " 1", "bar not giver=taker and not hands=1");
        due("HANDS without the one who is to get it, " + taker, x.soonest(0), 2);
      }
    }
  }

  private static void lostAndStrangers() {
    CHECK.says("17: LOST, as bits");
    due("all", Check.in("people 2" + ";coin 1 0 0".repeat(8)).lost(), 255);
    due("none of none", Check.in("people 2").lost(), 0);
    due("none", Check.in("people 2" + ";coin 1 0 0".repeat(8) + ";meet 365 0 1").lost(), 0);
    due("a day too late", Check.in("people 2" + ";coin 1 0 0".repeat(8) + ";meet 366 0 1").lost(), 255);
    OtherHands x = Check.in("people 2;year 1;coin 1 0 0;coin 1 0 1");
    due("both", x.lost(), 3);
    x.rest(2);
    due("the one that is VOID is not", x.lost(), 2);
    x.rest(1);
    due("both are VOID", x.lost(), 0);

    CHECK.says("18: STRANGERS, as bits (0: none is LOST)");
    due("no COINS", Check.in("people 2").strangers(), 0);
    due("none LOST", Check.in("people 2;coin 1 0 0;meet 1 0 1").strangers(), 0);
    StringBuilder sb = new StringBuilder("people 10");
    for (int i = 2; i < 10; i++) {
      sb.append(";coin 1 ").append(i).append(" 0");
    }
    due("eight", Check.in(sb.toString()).strangers(), 1020);
    due("one for all", Check.in("people 10" + ";coin 1 9 0".repeat(8)).strangers(), 512);
    due("both PEOPLE", Check.in("people 2;coin 1 0 0;coin 1 1 0").strangers(), 3);

    CHECK.says("STRANGERS: of several sets the least as bits; by being PAID so among its HANDS while it is not VOID");
    int[] years = {2, 3};
    int[] wants = {2, 1};
    for (int i = 0; i < 2; i++) {
      x = Check.in("people 2;year " + years[i] + ";coin 5 0 0;meet 0 0 1;meet 3 0 1");
      x.pay(0, 1);
      x.pay(0, 0);
      x.pay(0, 1);
      due("LOST", x.lost(), 1);
      x.rest(1);
      due("in a year of " + years[i], x.strangers(), wants[i]);
      x.rest(2);
      due("on the day of the MEETING, a year of " + years[i], x.strangers(), i == 0 ? 0 : 1);
    }
    x.rest(1);
    due("VOID", x.strangers(), 0);
  }

  private static void dear() {
    CHECK.says("DEAR: of a MEETING, how much WORTH would be LOST more if it were none");
    OtherHands x = Check.in("people 2" + ";coin 99 0 0".repeat(8) + ";meet 3 0 1");
    due("all", x.dear(0), 792);
    x.rest(3);
    due("on its day", x.dear(0), 792);
    x.rest(1);
    due("gone by", x.dear(0), 0);
    x = Check.in("people 2;coin 9 0 0;meet 3 0 1;meet 3 0 1");
    due("one of two", x.dear(0), 0);
    due("one of two", x.dear(1), 0);
    x = Check.in("people 2;coin 9 0 0" + ";meet 366 0 1".repeat(23) + ";meet 365 0 1");
    due("the last one", x.dear(23), 9);
    due("one when it is VOID", x.dear(22), 0);
    due("no such", x.dear(24), NONE);
    x = Check.in("people 2;year 5;coin 9 0 0;coin 8 0 9;meet 0 0 1;meet 12 0 1");
    x.rest(6);
    due("of the one that is not VOID", x.dear(1), 8);
    x = Check.in("people 2;coin 9 0 0;meet 0 0 1");
    x.pay(0, 1);
    due("NEW already", x.dear(0), 0);
  }

  private static void rings() {
    CHECK.says("RINGS of n PEOPLE (3 to 6)");
    String ring = "people 10;meet 0 0 1;meet 0 1 2;meet 0 2 9";
    OtherHands x = Check.in(ring + ";meet 5 9 0");
    due("three of four", x.rings(3, 0), 0);
    due("four", x.rings(4, 0), 1);
    due("through the last one", x.rings(4, 9), 1);
    due("through another", x.rings(4, 3), 0);
    due("five", x.rings(5, 0), 0);
    x = Check.in(ring + ";meet 9 9 3;meet 8 3 4;meet 1999 4 0");
    due("six", x.rings(6, 4), 1);
    due("five of six", x.rings(5, 4), 0);
    due("two", x.rings(2, 4), NONE);
    due("seven", x.rings(7, 4), NONE);
    x.rest(999);
    due("on some day, gone by or to come", x.rings(6, 4), 1);
    x = Check.in("people 3;meet 0 0 1;meet 1 1 0;meet 2 1 2;meet 3 2 1;meet 4 2 0;meet 5 0 2");
    due("they meet often, it is one", x.rings(3, 0), 1);
    due("more than there are", x.rings(4, 0), 0);
    x = Check.in("people 10;meet 0 0 1;meet 0 1 2;meet 0 2 0");
    due("one", x.rings(3, 0), 1);
    Check.town(x, "people 10;meet 0 0 1;meet 0 1 2;meet 0 2 3");
    due("none of another TOWN", x.rings(3, 0), 0);
    Check.town(x, "people 10;meet 1999 2 0;meet 0 0 1" + ";meet 0 7 8".repeat(21) + ";meet 5 1 2");
    due("by the last of 24", x.rings(3, 0), 1);
    due("two alone", Check.in("people 2;meet 0 0 1;meet 0 1 0").rings(3, 0), 0);
    due("no MEETINGS", Check.in("people 3").rings(3, 0), 0);
    due("one short", Check.in("people 3;meet 0 0 1;meet 1 1 2").rings(3, 0), 0);
    // All of six meet: 5 * 4 * .. ways from one of them on, half of them are the other way round.
    StringBuilder sb = new StringBuilder("people 6");
    for (int i = 0; i < 6; i++) {
      for (int k = i + 1; k < 6; k++) {
        sb.append(";meet 1 ").append(i).append(' ').append(k);
      }
    }
    x = Check.in(sb.toString());
    int[] wants = {10, 30, 60, 60};
    for (int n = 3; n <= 6; n++) {
      due("all meet, rings of " + n, x.rings(n, 5), wants[n - 3]);
    }
  }

  private static void never() {
    CHECK.says("NEVER: the first day (NOW to NOW and n - 1, n 1 to 400)");
    OtherHands x = Check.in("people 2;year 5;meet 9 0 1");
    due("too early by a day or more", x.never(0, 1), 0);
    x.rest(4);
    due("NOW to the MEETING", x.never(0, 6), -2);
    due("one day more", x.never(0, 7), 10);
    x.rest(5);
    due("the day of the MEETING", x.never(1, 1), -2);
    due("one day more", x.never(1, 2), 10);
    x.rest(1);
    due("behind it", x.never(0, 1), 10);
    x = Check.in("people 2;year 999;meet 398 0 1");
    due("399", x.never(0, 399), -2);
    due("400", x.never(0, 400), 399);
    due("400 days that are all well", Check.in("people 2;year 999;meet 399 0 1").never(0, 400), -2);
    for (int i = 0; i < 20; i++) {
      x.rest(999);
    }
    x.rest(19);
    due("on day 19999", x.never(0, 400), 19999);

    CHECK.says("NEVER: a COIN of WORTH 1 (of the number that would be next), its HANDS that one alone");
    String when = " and worth=1 and hands=1 and strange=1 and age=1 and day=3";
    due("number 0", barred("people 2;meet 3 0 1", "bar coin=0" + when).never(0, 9), 2);
    due("not number 1", barred("people 2;meet 3 0 1", "bar coin=1" + when).never(0, 9), 4);
    String eight = "people 2" + ";coin 9 0 0".repeat(8) + ";meet 3 0 1";
    due("number 8", barred(eight, "bar coin=8" + when).never(0, 9), 2);
    due("not number 7", barred(eight, "bar coin=7" + when).never(0, 9), 4);
  }

  private static void met() {
    CHECK.says("22: a COIN is told (how 1: home, 0: not, NONE: neither): true");
    OtherHands x = Check.in("people 2" + ";coin 1 0 0".repeat(8));
    for (int i = 0; i < 8; i++) {
      CHECK.due("told", x.came(i, i % 2), true);
      due("COINS told", x.count(8), i + 1);
    }
    CHECK.due("told again, otherwise", x.came(7, 0), true);
    due("COINS told", x.count(8), 8);
    CHECK.due("neither", x.came(7, NONE), true);
    CHECK.due("neither once more", x.came(7, NONE), true);
    due("COINS told", x.count(8), 7);
    CHECK.due("no such", x.came(8, 1), false);
    CHECK.due("without COINS", Check.in("people 2").came(0, 1), false);

    CHECK.says("WHO MET: of the first MEETINGS (8 at most) sets of those that were (all others are)");
    for (int n = 0; n <= 10; n++) {
      x = Check.in("people 4;coin 1 0 0" + ";meet 1 2 3".repeat(n));
      due("none told, MEETINGS " + n, x.met(0), 1 << Math.min(n, 8));
      due("in all", x.met(1), 0);
      due("in none", x.met(2), 0);
    }
    x = Check.in("people 4;coin 1 0 0" + ";meet 1 2 3".repeat(7) + ";meet 1 0 1");
    x.came(0, 1);
    metIs(x, 128, 128, 0);
    x.came(0, 0);
    metIs(x, 128, 0, 128);
    x = Check.in("people 4;coin 1 0 0" + ";meet 1 2 3".repeat(8) + ";meet 1 0 1");
    x.came(0, 1);
    metIs(x, 256, 0, 0);
    x.came(0, 0);
    metIs(x, 0, 0, 0);

    CHECK.says("23: MEETINGS in all of these, in none, as bits");
    x = Check.in("people 3;coin 1 0 0;coin 1 2 0;meet 1 0 1;meet 2 1 0;meet 3 2 1");
    x.came(0, 1);
    metIs(x, 6, 0, 0);
    x.came(1, 1);
    metIs(x, 3, 4, 0);
    x.came(1, 0);
    metIs(x, 3, 0, 4);
    x.came(0, NONE);
    metIs(x, 4, 0, 4);
    x.came(0, 0);
    metIs(x, 1, 0, 7);
    // One of the first two MEETINGS, not both; the third one is gone by.
    x = Check.in("people 3;coin 1 0 0;coin 1 1 0;meet 3 0 1;meet 4 1 2;meet 0 0 1");
    x.pay(0, 1);
    x.pay(0, 0);
    x.rest(1);
    x.came(0, 0);
    x.came(1, 1);
    metIs(x, 4, 0, 0);
    x.came(0, 1);
    metIs(x, 2, 3, 0);
    x.came(1, 0);
    metIs(x, 0, 0, 0);
    x.came(0, 0);
    metIs(x, 2, 0, 3);
    x = Check.in("people 2" + ";coin 1 0 0".repeat(8) + ";meet 1 0 1");
    for (int i = 0; i < 8; i++) {
      x.came(i, 1);
      metIs(x, 1, 1, 0);
    }
    x.came(7, 0);
    metIs(x, 0, 0, 0);

    CHECK.says("23: 0 both without a set");
    x = Check.in("people 2;coin 1 0 0;coin 1 0 0;meet 1 0 1");
    x.came(0, 1);
    metIs(x, 1, 1, 0);
    x.came(1, 0);
    metIs(x, 0, 0, 0);
    x.came(0, NONE);
    metIs(x, 1, 0, 1);
    x.rest(2);
    metIs(x, 2, 0, 0);
    x.came(0, 1);
    metIs(x, 0, 0, 0);

    CHECK.says("WHO MET: those told not can't (one that is VOID can't)");
    x = Check.in("people 2;year 1;coin 1 0 0;meet 2 0 1");
    x.came(0, 0);
    metIs(x, 2, 0, 0);
    x.rest(2);
    metIs(x, 2, 0, 0);
  }

  private static void metIs(OtherHands x, int sets, int all, int none) {
    due("met(0)", x.met(0), sets);
    due("met(1)", x.met(1), all);
    due("met(2)", x.met(2), none);
  }

  private static void seed() {
    CHECK.says("24: x becomes a number: what it was; NONE, and nothing happens, below 0");
    OtherHands x = new OtherHands();
    due("0 at first", x.seed(0), 0);
    due("the greatest", x.seed(Integer.MAX_VALUE), 0);
    due("-1", x.seed(-1), NONE);
    due("the least", x.seed(Integer.MIN_VALUE), NONE);
    due("x", x.count(9), Integer.MAX_VALUE);
    due("0", x.seed(0), Integer.MAX_VALUE);
    CHECK.changesNothing("-1", NONE, y -> y.seed(-1));
    CHECK.changesNothing("the least", NONE, y -> y.seed(Integer.MIN_VALUE));

    CHECK.says("DRAWS: x * 1103515245 + 12345, of 2147483648 the rest; x / 65536");
    // From 0: 0, 21468; 9988, 22117; 3498, 16927; 16045, 19741.
    x = Check.in("people 2;coin 1 0 0");
    Check.rule(x, "pay strange=1;home 1=1");
    int[] fromNothing = {0, 1, 2, 2};
    for (int n = 1; n <= 4; n++) {
      due("from 0, days " + n, x.years(0, 1, n, 0), fromNothing[n - 1]);
    }
    // From the greatest: 15929, 4409; 9862, 26718; 8713, 28226.
    x = Check.in("people 10;coin 1 2 0;coin 1 8 0;coin 1 6 0");
    Check.rule(x, "pay purse=1;home coin=0");
    Check.rule(x, "pay purse=1;home coin=1");
    Check.rule(x, "pay coin=2;home coin=2");
    x.seed(Integer.MAX_VALUE);
    due("9 and 9 are alike", x.years(0, 1, 1, 0), 0);
    due("2 and 8, the first one's go first", x.years(0, 1, 2, 0), 1);
    due("2 and 8, then the purse is of two", x.years(1, 1, 2, 0), 0);
    due("not yet 3 and 6", x.years(2, 1, 2, 0), 0);
    due("3 and 6", x.years(2, 1, 3, 0), 1);
  }

  /** All COINS of the two who meet change purses and come home: the DRAWS alone say how many. */
  private static void draws() {
    CHECK.says("DRAWS: two mod PEOPLE ahead of each DAY");
    int[] seeds = {0, 1, 12345, 65535, 65536, 1000000007, Integer.MAX_VALUE - 1, Integer.MAX_VALUE};
    for (int people = 2; people <= 10; people++) {
      StringBuilder sb = new StringBuilder("people ").append(people).append(";year 999");
      for (int i = 0; i < 8; i++) {
        sb.append(";coin 1 ").append(i * i % people).append(" 0");
      }
      OtherHands x = Check.in(sb.toString());
      Check.rule(x, "pay 1=1;home 1=1");
      for (int seed : seeds) {
        x.seed(seed);
        due("people " + people + ", seed " + seed, x.years(0, 2, 20, 0), homecomings(people, seed, 2, 20));
        due("people " + people + ", seed " + seed + ", a day", x.years(0, 10, 1, 0), homecomings(people, seed, 10, 1));
      }
      x.seed(7);
      due("people " + people + ", the most", x.years(0, 10, 400, 0), homecomings(people, 7, 10, 400));
    }
  }

  private static int homecomings(int people, long seed, int m, int n) {
    long x = seed;
    int sum = 0;
    for (int i = 0; i < m; i++) {
      int[] purses = new int[people];
      for (int k = 0; k < 8; k++) {
        purses[k * k % people]++;
      }
      for (int day = 0; day < n; day++) {
        x = (x * 1103515245 + 12345) % 2147483648L;
        int one = (int) (x / 65536 % people);
        x = (x * 1103515245 + 12345) % 2147483648L;
        int other = (int) (x / 65536 % people);
        if (one != other) {
          sum += purses[one] + purses[other];
          int his = purses[one];
          purses[one] = purses[other];
          purses[other] = his;
        }
      }
    }
    return sum;
  }

  private static void years() {
    CHECK.says("YEARS: m times (1 to 10), n DAYS (1 to 400)");
    OtherHands x = Check.in("people 2;year 399" + ";coin 1 0 0".repeat(8));
    Check.rule(x, "pay 1=2");
    due("VOID in 399 days", x.years(0, 10, 399, 1), 0);
    due("VOID in 400 days", x.years(0, 10, 400, 1), 80);
    due("VOID in 400 days, once", x.years(0, 1, 400, 1), 8);
    due("none paid, none home", x.years(0, 10, 400, 0), 0);
    due("11 times", x.years(0, 11, 400, 1), NONE);
    due("401 days", x.years(0, 10, 401, 1), NONE);
    x = Check.in("people 2;year 1;coin 1 0 0");
    Check.rule(x, "pay 1=2");
    due("one day", x.years(0, 1, 1, 1), 0);
    due("two days", x.years(0, 1, 2, 1), 1);

    CHECK.says("YEARS: each from now on, all together (nothing stays; x as it was)");
    x = Check.in("people 2;coin 1 0 0");
    Check.rule(x, "pay strange=1;home 1=1");
    // The first time 0, 0; the second time 0, 1; the third time 0, 1.
    int[] times = {0, 1, 2, 2};
    for (int m = 1; m <= 4; m++) {
      due("DRAWS go on from one time to the next, times " + m, x.years(0, m, 1, 0), times[m - 1]);
    }
    // The first time 0, 0 and 0, 1; the second time 0, 1 and 1, 1.
    due("two times", x.years(0, 2, 2, 0), 2);
    due("x", x.count(9), 0);
    due("two times again", x.years(0, 2, 2, 0), 2);
    due("who", x.coin(0, 1), 0);
    x.rest(366);
    due("VOID now, each time", x.years(0, 10, 1, 1), 10);
    due("VOID ones are not paid", x.years(0, 10, 400, 0), 0);
    x = Check.in("people 2;coin 1 0 0;meet 0 0 1");
    Check.rule(x, "pay strange=1;home 1=1");
    x.pay(0, 1);
    due("home", x.home(0), 1);
    x.rest(1);
    due("those of the second and the third time, not the one of before", x.years(0, 3, 1, 0), 2);

    CHECK.says("YEARS: the first and the second one MEET on it, too (behind all others)");
    x = Check.in("people 3;coin 1 0 0;meet 2 1 2");
    Check.rule(x, "pay 1=1;home hands=3");
    // From 0 the third day alone has one more: 0 and 1.
    due("not ahead of 1 and 2", x.years(0, 1, 3, 0), 0);
    x = Check.in("people 3;coin 1 2 0;meet 2 2 0");
    Check.rule(x, "pay 1=1;home hands=3");
    due("behind 2 and 0", x.years(0, 1, 3, 0), 1);
    due("not on the second day", x.years(0, 1, 2, 0), 0);

    CHECK.says("YEARS: by a RULE (its own bar TESTS)");
    x = Check.in("people 2;coin 1 0 0");
    Check.rule(x, "pay 1=1;home 1=1");
    Check.rule(x, "pay 1=1;home 1=1;bar 1=1");
    x.force(1);
    due("not those of the one IN FORCE", x.years(0, 1, 2, 0), 1);
    x.force(0);
    due("its own", x.years(1, 1, 2, 0), 0);
  }

  private static void images() {
    CHECK.says("27: NONE without it");
    CHECK.refuses("image", NONE, n -> y -> y.image(n), -1, 4);
    CHECK.says("28: NONE, and nothing happens, if it was never made, or without it");
    CHECK.refuses("back", NONE, n -> y -> y.back(n), 0, 2, 3, -1, 4);

    CHECK.says("IMAGES 0 to 3");
    OtherHands x = Check.in("people 2;coin 1 0 0;meet 0 0 1");
    for (int k = 0; k < 4; k++) {
      due("never made", x.back(k), NONE);
      due("image", x.image(k), k);
      x.rest(1);
    }
    for (int k = 3; k >= 0; k--) {
      due("back", x.back(k), k);
      due("the day", x.count(3), k);
    }
    x.rest(9);
    due("made anew", x.image(3), 9);
    due("another one", x.back(2), 2);
    due("the new one", x.back(3), 9);

    CHECK.says("27: the day (without a TOWN 0)");
    x = new OtherHands();
    due("image of nothing", x.image(0), 0);
    Check.town(x, "people 2;coin 1 0 0");
    x.rest(5);
    x.seed(9);
    due("back to nothing", x.back(0), 0);
    due("no TOWN", x.lost(), NONE);
    due("no PEOPLE", x.count(0), 0);
    due("no COINS", x.count(1), 0);
    due("no year", x.count(7), 0);
    due("x", x.count(9), 0);
    due("no COIN", x.coin(0, 0), NONE);

    CHECK.says("28: All is as in an IMAGE (the RULE IN FORCE, too); all but the TAPE and the RULES, these stay");
    x = Check.busy();
    String before = Check.all(x);
    due("image", x.image(2), 2);
    x.home(1);
    x.came(0, NONE);
    x.force(1);
    x.seed(5);
    x.run(1, 9);
    Check.town(x, "people 10" + ";coin 9 9 9".repeat(8) + ";year 3");
    due("back", x.back(2), 2);
    due("the TAPE is as town left it", x.count(10), 0);
    x.feed(1, 2, 3, 4, 5);
    CHECK.same("all", Check.all(x), before);
    due("the RULE IN FORCE", x.count(6), 0);
    due("a RULE made behind it", Check.rule(x, "bar 1=1"), 2);
    due("force", x.force(2), 0);
    x.feed(1, 2, 3, 4, 5);
    due("back", x.back(2), 2);
    due("the RULES stay", x.count(5), 3);
    due("the TAPE stays", x.count(10), 20);
    due("the RULE IN FORCE is that of the IMAGE", x.count(6), 0);
    due("and has its bar TESTS alone", x.pay(0, 2), 0);
    due("the image is not changed by that", x.back(2), 2);
    due("who", x.coin(0, 1), 1);
  }

  public static void main(String[] args) {
    arguments();
    nothingChanges();
    soonest();
    ways();
    lostAndStrangers();
    dear();
    rings();
    never();
    met();
    seed();
    draws();
    years();
    images();
    CHECK.close();
  }
}
