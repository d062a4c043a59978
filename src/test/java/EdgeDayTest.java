/** The edges of calls that tell and change: promises 1 and 7 to 14, and the terms' part II. */
public final class EdgeDayTest {
  private static final Check CHECK = new Check();
  private static final int NONE = OtherHands.NONE;

  private static void due(String call, long got, long want) {
    CHECK.due(call, got, want);
  }

  /** A full TOWN: ten PEOPLE, eight COINS, 24 MEETINGS. */
  private static OtherHands full() {
    StringBuilder sb = new StringBuilder("people 10");
    for (int i = 0; i < 8; i++) {
      sb.append(";coin 9").append(i).append(' ').append(i + 2).append(" 0");
    }
    for (int i = 0; i < 24; i++) {
      sb.append(";meet ").append(i / 3).append(' ').append(i % 9).append(" 9");
    }
    return Check.in(sb.toString());
  }

  private static void newObject() {
    CHECK.says("1: No TOWN, no RULES, none IN FORCE");
    OtherHands x = new OtherHands();
    for (int what = 0; what < 12; what++) {
      due("count(" + what + ")", x.count(what), what == 6 ? NONE : 0);
    }
    due("force(0)", x.force(0), -2);
    due("coin", x.coin(0, 0), NONE);
    due("meeting", x.meeting(0, 0), NONE);
    due("person", x.person(0, 0), NONE);
    due("pay", x.pay(0, 0), NONE);
    due("home", x.home(0), NONE);
    due("soonest", x.soonest(0), NONE);
    due("fewest", x.fewest(0), NONE);
    CHECK.due("came", x.came(0, 1), false);
    for (int k = 0; k < 4; k++) {
      due("back", x.back(k), NONE);
    }
    withoutTown(x);

    CHECK.says("NONE without a TOWN, with a RULE");
    Check.rule(x, "pay 1=1");
    withoutTown(x);
    due("the day", x.count(3), 0);
    due("a year", x.count(7), 0);
    Check.town(x, "people 2");
    due("run with a TOWN", x.run(0, 1), 1);
  }

  private static void withoutTown(OtherHands x) {
    due("rest", x.rest(1), NONE);
    due("run", x.run(0, 1), NONE);
    for (int what = 0; what < 3; what++) {
      due("ahead", x.ahead(0, 0, what), NONE);
      due("met", x.met(what), NONE);
      due("years", x.years(0, 1, 1, what), NONE);
    }
    due("lost", x.lost(), NONE);
    due("strangers", x.strangers(), NONE);
    due("dear", x.dear(0), NONE);
    due("rings", x.rings(3, 0), NONE);
    due("never", x.never(0, 1), NONE);
  }

  private static void coin() {
    CHECK.says("7: NONE without these");
    OtherHands x = full();
    for (int i = 0; i < 8; i++) {
      due("coin " + i, x.coin(i, 0), 90 + i);
      due("coin " + i, x.coin(i, 1), i + 2);
    }
    due("coin 8", x.coin(8, 0), NONE);
    CHECK.refuses("coin", NONE, n -> y -> y.coin(n, 0), -1, 2, 8);
    CHECK.refuses("what", NONE, n -> y -> y.coin(0, n), -1, 7);
    due("without COINS", Check.in("people 2").coin(0, 0), NONE);

    CHECK.says("HANDS of a COIN: who has it at first, at first alone; at first it is not NEW");
    due("HANDS", x.coin(7, 3), 1 << 9);
    due("NEW", x.coin(7, 4), 0);
    due("came HOME", x.coin(7, 6), 0);
    x = Check.in("people 2;coin 1 0 999;meet 0 0 1");
    due("ahead of its STAMP", x.coin(0, 2), 999);
    due("paid ahead of its STAMP", x.pay(0, 1), 0);
    due("NEW to who was not among them", x.coin(0, 4), 1);
    due("paid back", x.pay(0, 0), 0);
    due("not NEW to who was", x.coin(0, 4), 0);
    due("paid once more", x.pay(0, 1), 0);
    due("not NEW a second time", x.coin(0, 4), 0);
    due("HANDS", x.coin(0, 3), 3);
  }

  private static void meetingAndPerson() {
    CHECK.says("8: NONE without these");
    OtherHands x = full();
    due("meeting 23", x.meeting(23, 0) * 100 + x.meeting(23, 1) * 10 + x.meeting(23, 2), 759);
    due("meeting 24", x.meeting(24, 0), NONE);
    CHECK.refuses("meeting", NONE, n -> y -> y.meeting(n, 0), -1, 3, 24);
    CHECK.refuses("what", NONE, n -> y -> y.meeting(0, n), -1, 3);
    due("without MEETINGS", Check.in("people 2").meeting(0, 0), NONE);

    CHECK.says("9: NONE without these");
    due("person 9", x.person(9, 0), 128);
    due("his WORTH", x.person(9, 1), 97);
    due("whom he MEETS on this day", x.person(9, 2), 7);
    due("person 10", x.person(10, 0), NONE);
    CHECK.refuses("person", NONE, n -> y -> y.person(n, 0), -1, 3, 10);
    CHECK.refuses("what", NONE, n -> y -> y.person(0, n), -1, 3);
    due("no COINS", x.person(0, 0), 0);
    due("no WORTH", x.person(0, 1), 0);
    due("nobody on this day", x.person(3, 2), 0);
    x.rest(1);
    due("on the next day", x.person(3, 2), 512);
    x.rest(6);
    due("on the last day of MEETINGS", x.person(9, 2), 7 << 3);
    x.rest(1);
    due("behind the last", x.person(9, 2), 0);
    OtherHands y = Check.in("people 10" + ";coin 99 9 0".repeat(8));
    due("all COINS", y.person(9, 0), 255);
    due("all WORTH", y.person(9, 1), 792);
  }

  private static void isVoid() {
    CHECK.says("VOID from the day on that is behind its STAMP by more than a year");
    isVoidFrom("year 5;coin 4 0 3", 9);
    isVoidFrom("year 1;coin 4 0 0", 2);
    isVoidFrom("coin 4 0 0", 366);
    isVoidFrom("year 999;coin 4 0 0", 1000);
    isVoidFrom("year 999;coin 4 0 999", 1999);
    isVoidFrom("year 1;coin 4 0 999", 1001);
  }

  /** A COIN of WORTH 4 that 0 has, who meets 1 on that day and on the day before. */
  private static void isVoidFrom(String clauses, int day) {
    OtherHands x = Check.in("people 2;" + clauses + ";meet " + day + " 0 1;meet " + (day - 1) + " 0 1");
    Check.rule(x, "pay 1=1");
    Check.rule(x, "home 1=1");
    String what = clauses + " on day " + (day - 1) + ": ";
    goTo(x, day - 1);
    x.image(0);
    due(what + "VOID", x.coin(0, 5), 0);
    due(what + "WORTH", x.person(0, 1), 4);
    due(what + "VOID ones", x.count(11), 0);
    due(what + "ahead of no day", x.ahead(0, 0, 1), 0);
    due(what + "ahead of a day", x.ahead(0, 1, 1), 1);
    due(what + "paid in two days", x.ahead(0, 2, 2), 1);
    due(what + "soonest", x.soonest(0), day - 1);
    due(what + "fewest", x.fewest(0), 1);
    due(what + "LOST", x.lost(), 0);
    due(what + "pay", x.pay(0, 1), 0);
    x.image(1);
    due(what + "home by a RULE", x.ahead(1, 1, 0), 1);
    due(what + "home", x.home(0), 1);
    x.back(1);
    x.rest(1);
    what = clauses + " on day " + day + ": ";
    due(what + "pay", x.pay(0, 0), -3);
    due(what + "home", x.home(0), -3);
    due(what + "home by a RULE", x.ahead(1, 1, 0), 0);
    due(what + "who", x.coin(0, 1), 1);
    due(what + "NEW", x.coin(0, 4), 1);
    due(what + "soonest", x.soonest(0), -2);
    due(what + "fewest", x.fewest(0), -2);
    x.back(0);
    x.rest(1);
    due(what + "VOID", x.coin(0, 5), 1);
    due(what + "WORTH", x.person(0, 1), 0);
    due(what + "VOID ones", x.count(11), 1);
    due(what + "ahead of no day", x.ahead(0, 0, 1), 1);
    due(what + "paid", x.ahead(0, 1, 2), 0);
    due(what + "pay", x.pay(0, 1), -3);
    due(what + "soonest", x.soonest(0), -2);
    due(what + "fewest", x.fewest(0), -2);
    due(what + "LOST", x.lost(), 0);
    due(what + "strangers", x.strangers(), 0);
    due(what + "dear", x.dear(0), 0);
    x.run(0, 1);
    due(what + "stays where it is", x.coin(0, 1), 0);
  }

  private static void goTo(OtherHands x, int day) {
    for (int i = 0; i < 30 && x.count(3) < day; i++) {
      x.rest(Math.min(999, day - x.count(3)));
    }
    due("the day", x.count(3), day);
  }

  private static void pay() {
    CHECK.says("10: NONE without these (to himself, too)");
    CHECK.refuses("COIN to 0", NONE, n -> y -> y.pay(n, 0), -1, 2, 8);
    CHECK.refuses("COIN 0 to", NONE, n -> y -> y.pay(0, n), -1, 3, 10);
    CHECK.changesNothing("pay to himself", NONE, y -> y.pay(0, 1));
    OtherHands x = full();
    due("the last COIN from the last one", x.pay(7, 0), 0);
    due("to the last one", x.pay(7, 9), 0);
    due("one beyond", x.pay(7, 10), NONE);
    due("one COIN beyond", x.pay(8, 0), NONE);
    x.rest(999);
    due("VOID, to himself", x.pay(7, 9), NONE);

    CHECK.says("10: -2 less the LAW that is broken, the first");
    x = Check.in("people 4;year 5;coin 5 0 0;meet 5 0 1;meet 5 2 3;meet 6 0 1");
    Check.rule(x, "bar taker=1 or taker=2");
    x.force(0);
    x.rest(4);
    due("a day ahead of the MEETING, barred, too", x.pay(0, 1), -4);
    x.rest(1);
    x.image(0);
    String before = Check.all(x);
    due("barred", x.pay(0, 1), -5);
    due("they don't MEET, and it is barred", x.pay(0, 2), -4);
    due("they don't MEET", x.pay(0, 3), -4);
    CHECK.same("nothing happens", Check.all(x), before);
    x.rest(1);
    before = Check.all(x);
    due("VOID, and barred", x.pay(0, 1), -3);
    due("VOID, and they don't MEET", x.pay(0, 3), -3);
    CHECK.same("nothing happens", Check.all(x), before);
    x.back(0);
    x.force(NONE);
    due("none IN FORCE", x.pay(0, 1), 0);
    due("the second one to the first one", x.pay(0, 0), 0);
    Check.rule(x, "pay 1=1;home 1=1");
    x.force(1);
    due("a RULE IN FORCE without a bar TEST", x.pay(0, 1), 0);
  }

  private static void home() {
    CHECK.says("11: NONE without it");
    CHECK.refuses("home", NONE, n -> y -> y.home(n), -1, 2, 8);

    CHECK.says("11: -2 less the LAW that is broken, the first");
    OtherHands x = Check.in("people 2;year 5;coin 5 0 0;meet 4 0 1");
    Check.rule(x, "bar giver=taker");
    x.force(0);
    due("not NEW at first, and barred", x.home(0), -4);
    x.rest(4);
    due("pay", x.pay(0, 1), 0);
    String before = Check.all(x);
    due("barred", x.home(0), -5);
    CHECK.same("nothing happens", Check.all(x), before);
    x.image(0);
    x.rest(2);
    due("VOID, and barred", x.home(0), -3);
    x.back(0);
    due("paid back", x.pay(0, 0), 0);
    x.rest(2);
    due("VOID, and not NEW", x.home(0), -3);

    CHECK.says("it is stamped anew: its STAMP is this day, its HANDS are who has it alone, and it is not NEW to him");
    x.back(0);
    x.force(NONE);
    x.rest(1);
    due("a day later, the last one", x.home(0), 1);
    int[] coin = {5, 1, 5, 2, 0, 0, 1};
    for (int what = 0; what < coin.length; what++) {
      due("coin(0, " + what + ")", x.coin(0, what), coin[what]);
    }
    due("homecomings", x.count(4), 1);
    due("not at once again", x.home(0), -4);
    due("homecomings", x.count(4), 1);
    x.rest(5);
    due("its new year", x.coin(0, 5), 0);
    x.rest(1);
    due("its new year is over", x.coin(0, 5), 1);
  }

  private static void rest() {
    CHECK.says("12: So many days (1 to 999) go by");
    OtherHands x = Check.in("people 2");
    due("rest(1)", x.rest(1), 1);
    due("rest(999)", x.rest(999), 1000);
    CHECK.refuses("rest", NONE, n -> y -> y.rest(n), -1, 0, 1000);

    CHECK.says("12: at which nothing happens");
    OtherHands y = Check.busy();
    y.rest(1);
    due("COINS of who would pay", y.coin(0, 1), 1);
    due("no homecoming of one that is NEW", y.coin(1, 6), 0);
    due("x", y.count(9), 77);

    CHECK.says("12: NONE, and nothing happens, if it would be above 19999");
    goTo(x, 19001);
    due("above by one", x.rest(999), NONE);
    due("the day", x.count(3), 19001);
    due("just", x.rest(998), 19999);
    due("one more", x.rest(1), NONE);
    due("many more", x.rest(999), NONE);
    due("the day", x.count(3), 19999);
  }

  private static void run() {
    CHECK.says("13: So many DAYS (1 to 400) by a RULE");
    OtherHands x = Check.in("people 2;coin 1 0 0;meet 0 0 1;meet 1 0 1;meet 400 0 1");
    Check.rule(x, "pay 1=1");
    x.image(0);
    due("run of 1", x.run(0, 1), 1);
    due("its one MEETING", x.coin(0, 1), 1);
    x.back(0);
    due("run of 400", x.run(0, 400), 400);
    due("its two MEETINGS", x.coin(0, 1), 0);
    due("a year of 365 is over", x.coin(0, 5), 1);
    CHECK.refuses("days", NONE, n -> y -> y.run(0, n), -1, 0, 401);
    CHECK.refuses("RULE", NONE, n -> y -> y.run(n, 1), -1, 2, 6);

    CHECK.says("13: NONE, and nothing happens, if it would be above 19999");
    goTo(x, 19600);
    due("above by one", x.run(0, 400), NONE);
    due("the day", x.count(3), 19600);
    due("just", x.run(0, 399), 19999);
    due("one more", x.run(0, 1), NONE);
    due("the day", x.count(3), 19999);
  }

  private static void ahead() {
    CHECK.says("14: What DAYS (n 0 to 400) by a RULE would be");
    OtherHands x = Check.in("people 3;year 500;coin 1 0 0;meet 0 0 1;meet 399 1 2;meet 400 2 0");
    Check.rule(x, "pay 1=1;home 1=1");
    due("homecomings in none", x.ahead(0, 0, 0), 0);
    due("payments in none", x.ahead(0, 0, 2), 0);
    due("VOID in none", x.ahead(0, 0, 1), 0);
    due("homecomings in one", x.ahead(0, 1, 0), 1);
    due("homecomings in 399", x.ahead(0, 399, 0), 1);
    due("homecomings in 400", x.ahead(0, 400, 0), 2);
    due("payments in 400", x.ahead(0, 400, 2), 2);
    due("none beyond", x.ahead(0, 401, 2), NONE);
    CHECK.refuses("days", NONE, n -> y -> y.ahead(0, n, 0), -1, 401);
    CHECK.refuses("RULE", NONE, n -> y -> y.ahead(n, 1, 0), -1, 2, 6);
    CHECK.refuses("what", NONE, n -> y -> y.ahead(0, 1, n), -1, 3);

    CHECK.says("14: homecomings in them (not those of before)");
    x = Check.busy();
    due("homecomings", x.count(4), 1);
    due("in none", x.ahead(1, 0, 0), 0);
    // Coin 0 goes from 1 to 0, coin 1 is NEW to 2; on day 4 they change purses.
    due("in one", x.ahead(1, 1, 0), 2);

    CHECK.says("By what is asked nothing changes");
    CHECK.changesNothing("homecomings", 4, y -> y.ahead(1, 400, 0));
    CHECK.changesNothing("VOID", 3, y -> y.ahead(1, 400, 1));
    CHECK.changesNothing("payments", 3, y -> y.ahead(1, 400, 2));

    CHECK.says("the day is 1 more (19999 at most)");
    x = Check.in("people 2" + ";coin 1 0 999".repeat(8));
    Check.rule(x, "pay 1=1");
    goTo(x, 19999);
    due("VOID behind the last day", x.ahead(0, 400, 1), 255);
    due("payments", x.ahead(0, 400, 2), 0);
    due("years", x.years(0, 10, 400, 1), 80);
    due("the day", x.count(3), 19999);
  }

  private static void days() {
    CHECK.says("MEETINGS of this day, as told");
    OtherHands x = Check.in("people 3;coin 1 0 0;meet 0 1 2;meet 0 0 1");
    Check.rule(x, "pay 1=1");
    due("the later one told does not come ahead", x.ahead(0, 1, 2), 1);
    x = Check.in("people 3;coin 1 0 0;meet 0 0 1;meet 0 1 2");
    Check.rule(x, "pay 1=1");
    due("the one behind the other", x.ahead(0, 1, 2), 2);
    x = Check.in("people 2;coin 1 0 0;meet 0 0 1;meet 0 0 1");
    Check.rule(x, "pay 1=1");
    due("there, and back at the second one", x.ahead(0, 1, 2), 2);
    x = Check.in("people 2;coin 1 0 0;meet 1 0 1");
    Check.rule(x, "pay 1=1");
    due("none on this day", x.ahead(0, 1, 2), 0);
    due("one on the next", x.ahead(0, 2, 2), 1);

    CHECK.says("of each the first one's COINS, by numbers, then the second one's (not those he got just now)");
    x = Check.in("people 2;coin 1 1 0;coin 2 0 0;coin 3 1 0;meet 0 0 1");
    Check.rule(x, "pay 1=1");
    Check.rule(x, "pay purse=3");
    Check.rule(x, "pay purse=1");
    due("each once", x.ahead(0, 1, 2), 3);
    // The first one's goes first: by then the second one has three, and one alone goes.
    x.image(0);
    x.run(2, 1);
    due("a purse of one", x.person(1, 0), 7);
    x.back(0);
    due("a purse of three is none", x.ahead(1, 1, 2), 0);
    Check.rule(x, "pay purse=1 or purse=3");
    x.run(3, 1);
    due("the least number of the purse of three", x.person(0, 0), 1);
    due("what he got just now stays", x.person(1, 0), 6);

    CHECK.says("all COINS, by numbers, that may be brought HOME and for which some home TEST holds, are");
    x = Check.in("people 3;coin 1 0 0;coin 2 0 0;coin 3 2 0;meet 0 0 1");
    Check.rule(x, "pay 1=1;home coin=1;home coin=7");
    Check.rule(x, "pay 1=1;home 1=1;bar giver=taker and coin=0");
    Check.rule(x, "home 1=1");
    Check.rule(x, "pay 1=1");
    due("one for which a TEST holds", x.ahead(0, 1, 0), 1);
    due("one that is not barred", x.ahead(1, 1, 0), 1);
    due("none without a pay TEST", x.ahead(2, 1, 2), 0);
    due("none that is not NEW", x.ahead(2, 1, 0), 0);
    due("none without a home TEST", x.ahead(3, 1, 0), 0);
  }

  public static void main(String[] args) {
    newObject();
    coin();
    meetingAndPerson();
    isVoid();
    pay();
    home();
    rest();
    run();
    ahead();
    days();
    CHECK.close();
  }
}
