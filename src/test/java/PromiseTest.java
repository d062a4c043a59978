/** Each promise of the document by calls worked out by hand. */
public final class PromiseTest {
  private static final Check CHECK = new Check();
  private static final int NONE = OtherHands.NONE;

  private static void due(String call, long got, long want) {
    CHECK.due(call, got, want);
  }

  private static void promise1() {
    OtherHands x = new OtherHands();
    int[] wants = {0, 0, 0, 0, 0, 0, NONE, 0, 0, 0, 0, 0, NONE};
    for (int what = 0; what < wants.length; what++) {
      due("1: count(" + what + ")", x.count(what), wants[what]);
    }
    due("1: NONE", OtherHands.NONE, -1);
    due("1: coin", x.coin(0, 0), NONE);
    due("1: lost", x.lost(), NONE);
    due("1: strangers", x.strangers(), NONE);
    due("1: rest", x.rest(1), NONE);
    due("1: met", x.met(0), NONE);
    due("1: rings", x.rings(3, 0), NONE);
    due("1: never", x.never(0, 1), NONE);
    due("1: dear", x.dear(0), NONE);
    due("1: back", x.back(0), NONE);
    Check.rule(x, "pay 1=1");
    due("1: run", x.run(0, 1), NONE);
    due("1: ahead", x.ahead(0, 0, 0), NONE);
    due("1: years", x.years(0, 1, 1, 0), NONE);
  }

  private static void promise2and3() {
    OtherHands x = new OtherHands();
    due("2: feed", x.feed(0x70656f70, 0x6c652032, 0x3b796561, 0x72203500, 0xff000000), 20);
    due("3: end above", x.end(21), NONE);
    due("3: end below", x.end(-1), NONE);
    due("3: end", x.end(15), 15);
    due("2: its bytes", x.town(), 0);
    due("2: its year", x.count(7), 5);
    due("3: end of none", x.end(0), 0);
    for (int i = 1; i <= 20; i++) {
      due("2: feed " + i, x.feed(0, 0, 0, 0, 0), 20 * i);
    }
    due("2: feed too much", x.feed(0, 0, 0, 0, 0), NONE);
    due("2: none came", x.count(10), 400);
    due("3: end of all", x.end(400), 400);
    due("3: end", x.end(381), 381);
    due("2: feed one too many", x.feed(0, 0, 0, 0, 0), NONE);
    due("3: end", x.end(380), 380);
    due("2: feed all", x.feed(0, 0, 0, 0, 0), 400);
  }

  private static void promise4() {
    OtherHands x = Check.in("people 3;year 20;coin 5 0 1;meet 2 0 1");
    Check.rule(x, "bar 1=2");
    x.force(0);
    x.seed(77);
    x.rest(2);
    x.pay(0, 1);
    x.home(0);
    x.came(0, 1);
    due("4: homecomings", x.count(4), 1);
    Check.put(x, "people 1");
    due("4: town with a fault", x.town(), -2 - (1 + 8 * 7 + 1));
    int[] stays = {3, 1, 1, 2, 1, 1, 0, 20, 1, 77, 0, 0};
    for (int what = 0; what < stays.length; what++) {
      due("4: stays, but for the TAPE: count(" + what + ")", x.count(what), stays[what]);
    }
    due("4: the TAPE begins anew", x.feed(0, 0, 0, 0, 0), 20);
    due("4: town", Check.town(x, "people 4;coin 7 3 9;coin 8 2 0"), 2);
    int[] wants = {4, 2, 0, 0, 0, 1, 0, 365, 0, 77, 0, 0};
    for (int what = 0; what < wants.length; what++) {
      due("4: count(" + what + ")", x.count(what), wants[what]);
    }
    due("4: coin", x.coin(0, 6), 0);
  }

  private static void promise5and6() {
    OtherHands x = new OtherHands();
    due("6: none such", x.force(0), -2);
    due("5: rule with a fault", Check.rule(x, "bar 1"), Check.fault(5, 0));
    due("5: no RULE is made", x.count(5), 0);
    due("5: the TAPE is empty", x.count(10), 0);
    for (int i = 0; i < 6; i++) {
      due("5: rule", Check.rule(x, "bar 1=" + i), i);
    }
    due("5: a seventh", Check.rule(x, "bar 1=1"), NONE);
    due("5: the TAPE stays", x.count(10), 7);
    due("5: a seventh with a fault", Check.rule(x, "x"), NONE);
    due("6: force", x.force(5), NONE);
    due("6: force", x.force(6), -2);
    due("6: force", x.force(-2), -2);
    due("6: stays", x.count(6), 5);
    due("6: force", x.force(0), 5);
    due("6: none", x.force(NONE), 0);
    due("6: none", x.count(6), NONE);
  }

  private static void promise7() {
    OtherHands x = Check.in("people 3;year 10;coin 5 2 4;meet 3 2 0;meet 3 0 1;meet 3 1 2");
    int[] wants = {5, 2, 4, 4, 0, 0, 0, NONE};
    for (int what = 0; what < wants.length; what++) {
      due("7: coin(0, " + what + ")", x.coin(0, what), wants[what]);
    }
    due("7: what below", x.coin(0, -1), NONE);
    due("7: no coin", x.coin(1, 0), NONE);
    due("7: no coin", x.coin(-1, 0), NONE);
    x.rest(3);
    x.pay(0, 0);
    due("7: HANDS", x.coin(0, 3), 5);
    due("7: NEW", x.coin(0, 4), 1);
    x.pay(0, 2);
    due("7: not NEW", x.coin(0, 4), 0);
    x.pay(0, 0);
    due("7: not NEW again", x.coin(0, 4), 0);
    due("7: who", x.coin(0, 1), 0);
    x.rest(11);
    due("7: a year behind", x.coin(0, 5), 0);
    x.rest(1);
    due("7: VOID", x.coin(0, 5), 1);
  }

  private static void promise8and9() {
    OtherHands x = Check.in("people 4;year 3;coin 5 2 0;coin 6 2 9;coin 1 0 0;meet 7 2 0;meet 1 3 1;meet 7 1 2");
    due("8: day", x.meeting(0, 0), 7);
    due("8: first", x.meeting(1, 1), 3);
    due("8: second", x.meeting(1, 2), 1);
    due("8: what", x.meeting(0, 3), NONE);
    due("8: what", x.meeting(0, -1), NONE);
    due("8: none", x.meeting(3, 0), NONE);
    due("8: none", x.meeting(-1, 0), NONE);
    due("9: COINS", x.person(2, 0), 3);
    due("9: WORTH", x.person(2, 1), 11);
    due("9: MEETS", x.person(2, 2), 0);
    x.rest(7);
    due("9: WORTH of what is not VOID", x.person(2, 1), 6);
    due("9: MEETS", x.person(2, 2), 3);
    due("9: MEETS", x.person(3, 2), 0);
    due("9: no COINS", x.person(1, 0), 0);
    due("9: what", x.person(0, 3), NONE);
    due("9: what", x.person(0, -1), NONE);
    due("9: nobody", x.person(4, 0), NONE);
    due("9: nobody", x.person(-1, 0), NONE);
  }

  private static void promise10() {
    OtherHands x = Check.in("people 3;year 5;coin 5 0 0;coin 2 1 0;meet 0 0 1;meet 9 0 1");
    Check.rule(x, "bar taker = 1 and purse = 1 and giver = 0 and strange = 1 and hands = 1 and worth = 5 and coin = 0");
    due("10: none", x.pay(2, 0), NONE);
    due("10: none", x.pay(-1, 0), NONE);
    due("10: nobody", x.pay(0, 3), NONE);
    due("10: nobody", x.pay(0, -1), NONE);
    due("10: himself", x.pay(0, 0), NONE);
    due("10: no MEETING", x.pay(0, 2), -4);
    x.force(0);
    due("10: barred", x.pay(0, 1), -5);
    due("10: not barred", x.pay(1, 0), 0);
    due("10: purse of two", x.pay(0, 1), 0);
    due("10: back", x.pay(0, 0), 0);
    x.rest(1);
    due("10: another day", x.pay(0, 1), -4);
    x.rest(8);
    due("10: VOID", x.pay(0, 1), -3);
    due("10: VOID ahead of others", x.pay(0, 2), -3);
  }

  private static void promise11() {
    OtherHands x = Check.in("people 3;year 5;coin 5 0 0;meet 1 0 1;meet 2 1 2");
    Check.rule(x, "bar strange = 1 and giver = 1 and taker = 1 and hands = 2 and age = 1 and day = 1");
    due("11: none", x.home(1), NONE);
    due("11: not NEW", x.home(0), -4);
    x.rest(1);
    x.pay(0, 1);
    x.force(0);
    due("11: barred", x.home(0), -5);
    x.force(NONE);
    due("11: home", x.home(0), 1);
    due("11: STAMP", x.coin(0, 2), 1);
    due("11: HANDS", x.coin(0, 3), 2);
    due("11: not NEW", x.coin(0, 4), 0);
    due("11: counted", x.count(4), 1);
    x.rest(1);
    x.pay(0, 2);
    due("11: home again", x.home(0), 2);
    due("11: counted", x.coin(0, 6), 2);
    x.rest(6);
    due("11: VOID", x.home(0), -3);
  }

  private static void promise12() {
    OtherHands x = Check.in("people 2");
    due("12: rest", x.rest(1), 1);
    due("12: rest", x.rest(0), NONE);
    due("12: rest", x.rest(1000), NONE);
    due("12: rest", x.rest(-1), NONE);
    for (int i = 1; i <= 20; i++) {
      due("12: rest", x.rest(999), 1 + 999 * i);
    }
    due("12: rest", x.rest(19), NONE);
    due("12: rest", x.rest(18), 19999);
    due("12: rest", x.rest(1), NONE);
    Check.rule(x, "pay 1=1");
    due("13: run", x.run(0, 1), NONE);
    due("14: ahead", x.ahead(0, 400, 2), 0);
    due("12: the day", x.count(3), 19999);
  }

  private static void promise13and14() {
    OtherHands x = Check.in("people 3;year 9;coin 5 0 0;coin 6 1 0;coin 7 1 0;meet 0 0 1;meet 0 1 2;meet 1 2 0");
    due("13: the RULE", Check.rule(x, "pay strange = 1 and worth < 7;home hands = 2;bar coin = 1 and day = 0 and taker = 0"), 0);
    // Day 0: coin 0 to 1; coin 1 barred; then coin 0 to 2 (three hands), coin 1 to 2, which comes home.
    due("14: homecomings", x.ahead(0, 1, 0), 1);
    due("14: payments", x.ahead(0, 1, 2), 3);
    due("14: VOID", x.ahead(0, 10, 1), 5);
    due("14: none", x.ahead(0, 0, 0), 0);
    due("14: wrong", x.ahead(1, 1, 0), NONE);
    due("14: wrong", x.ahead(-1, 1, 0), NONE);
    due("14: wrong", x.ahead(0, -1, 0), NONE);
    due("14: wrong", x.ahead(0, 401, 0), NONE);
    due("14: wrong", x.ahead(0, 1, 3), NONE);
    due("14: wrong", x.ahead(0, 1, -1), NONE);
    due("14: nothing stays", x.count(3), 0);
    due("13: wrong", x.run(1, 1), NONE);
    due("13: wrong", x.run(0, 0), NONE);
    due("13: wrong", x.run(0, 401), NONE);
    due("13: run", x.run(0, 1), 1);
    due("13: coin 0", x.coin(0, 3), 7);
    due("13: coin 1", x.coin(1, 3), 4);
    due("13: coin 2", x.coin(2, 3), 2);
    due("13: homecomings", x.count(4), 1);
    due("13: run on", x.run(0, 400), 401);
    due("13: coin 1 once more", x.coin(1, 6), 2);
    due("13: homecomings", x.count(4), 2);
  }

  /** What the second one got just now does not go back; the first one's go ahead. */
  private static void promise13order() {
    OtherHands x = Check.in("people 2;coin 1 0 0;coin 2 1 0;coin 3 0 0;meet 0 1 0");
    Check.rule(x, "pay 1=1");
    due("13: run", x.run(0, 1), 1);
    due("13: all changed", x.person(0, 0), 2);
    due("13: all changed", x.person(1, 0), 5);
    x = Check.in("people 2;coin 1 0 0;coin 2 1 0;coin 3 0 0;meet 0 1 0");
    Check.rule(x, "pay purse >= 2");
    x.run(0, 1);
    // One of the purse of two goes, then it is a purse of one.
    due("13: as it is then", x.person(1, 0), 3);
    // Its RULE alone is asked, not the one in force.
    x = Check.in("people 2;coin 1 0 0;meet 0 0 1");
    Check.rule(x, "bar 1=1");
    Check.rule(x, "pay 1=1;home 1=1");
    x.force(0);
    due("13: its own bars", x.ahead(1, 1, 0), 1);
    due("13: barred by force", x.pay(0, 1), -5);
  }

  private static void promise15and16() {
    OtherHands x = Check.in("people 4;year 10;coin 5 0 0;coin 7 1 0;meet 2 0 1;meet 5 1 2;meet 5 2 3;meet 20 0 3");
    due("15: soonest", x.soonest(0), 2);
    due("16: fewest", x.fewest(0), 1);
    due("15: none", x.soonest(2), NONE);
    due("16: none", x.fewest(-1), NONE);
    Check.rule(x, "bar taker = 0 or giver = 1 and taker = 2");
    x.force(0);
    due("15: barred", x.soonest(1), -2);
    due("16: barred", x.fewest(1), -2);
    x.force(NONE);
    x.rest(2);
    x.pay(0, 1);
    due("15: on this day", x.soonest(0), 2);
    due("16: without", x.fewest(0), 0);
    Check.rule(x, "bar giver = 1 and taker = 1");
    x.force(1);
    due("15: by another", x.soonest(0), 5);
    due("16: by another", x.fewest(0), 1);
    x.rest(9);
    due("15: VOID", x.soonest(0), -2);
    due("16: VOID", x.fewest(0), -2);
  }

  /** Among its HANDS it may go on; a longer way may be sooner, and of one day the order told counts. */
  private static void promise15ways() {
    String town = "people 4;coin 5 0 0;meet 0 0 1;meet 0 1 2;meet 9 2 3;meet 5 0 3;meet 3 1 3;meet 3 2 1";
    OtherHands x = Check.in(town);
    x.pay(0, 1);
    x.pay(0, 2);
    Check.rule(x, "bar giver = taker and day < 3");
    x.force(0);
    // 2 has it, 0, 1 and 2 are its HANDS: by 1 on day 0, who meets 3 on day 3.
    due("15: two payments", x.soonest(0), 3);
    due("16: one payment", x.fewest(0), 1);
    x.rest(1);
    // From day 1 on 2 meets 1 only behind the MEETING of 1 and 3.
    due("15: too late", x.soonest(0), 9);
    due("16: one payment", x.fewest(0), 1);
    // A stranger who can't bring it home is no way; purses are those of now.
    x = Check.in("people 3;coin 5 0 0;coin 6 2 0;meet 1 0 1;meet 2 0 2");
    Check.rule(x, "bar giver = taker and purse = 0");
    x.force(0);
    due("15: purse", x.soonest(0), 2);
    Check.rule(x, "bar giver = taker and hands < 2");
    x.force(1);
    due("15: HANDS as they would be", x.soonest(0), 1);
    Check.rule(x, "bar age < 2");
    x.force(2);
    due("15: age of that day", x.soonest(0), 2);
    // On its way it is in no purse but the one that it is in now.
    x = Check.in("people 3;coin 5 0 0;coin 5 1 0;coin 5 1 0;meet 0 0 1;meet 1 0 1;meet 2 1 2");
    x.pay(0, 1);
    x.pay(0, 0);
    x.rest(1);
    Check.rule(x, "bar giver = 1 and taker = 2 and purse = 2");
    Check.rule(x, "bar giver = 1 and taker = 2 and not purse = 2");
    x.force(0);
    due("15: the giver's purse as it is now", x.soonest(0), -2);
    x.force(1);
    due("15: the giver's purse as it is now", x.soonest(0), 2);
    due("16: by two", x.fewest(0), 2);
    // NEW but barred on this day: a later day is no day for it without a payment.
    x = Check.in("people 2;coin 5 0 0;meet 0 0 1");
    x.pay(0, 1);
    Check.rule(x, "bar day = 0");
    x.force(0);
    due("15: barred today", x.soonest(0), -2);
    // VOID on the day of the MEETING.
    x = Check.in("people 2;year 5;coin 5 0 3;coin 5 0 4;meet 9 0 1");
    due("15: VOID then", x.soonest(0), -2);
    due("15: just not", x.soonest(1), 9);
  }

  private static void promise17to19() {
    OtherHands x = Check.in("people 5;year 10;coin 5 0 0;coin 7 1 0;coin 9 4 0;coin 3 3 30;meet 2 0 1;meet 11 1 2;meet 40 2 3");
    due("17: lost", x.lost(), 4);
    due("18: strangers", x.strangers(), 16);
    due("19: dear", x.dear(0), 12);
    due("19: dear", x.dear(1), 0);
    due("19: dear", x.dear(2), 3);
    due("19: none", x.dear(3), NONE);
    due("19: none", x.dear(-1), NONE);
    x.rest(3);
    due("17: lost later", x.lost(), 7);
    due("18: strangers", x.strangers(), 19);
    x.rest(8);
    due("17: VOID ones are not lost", x.lost(), 0);
    due("18: none", x.strangers(), 0);
    x = Check.in("people 2");
    due("17: no COINS", x.lost(), 0);
    due("18: no COINS", x.strangers(), 0);
  }

  /** LOST ones that go among their HANDS may be with one who has another. */
  private static void promise18sets() {
    OtherHands x = Check.in("people 3;coin 5 0 0;coin 5 1 0;coin 5 2 0;meet 0 0 1;meet 0 1 2;meet 5 1 0;meet 6 2 1");
    int[][] payments = {{0, 1}, {0, 2}, {0, 1}, {0, 2}, {1, 0}, {1, 1}, {1, 2}, {1, 1}, {1, 2}, {2, 1}, {2, 0}, {2, 1}};
    for (int[] p : payments) {
      due("10: pay", x.pay(p[0], p[1]), 0);
    }
    x.rest(1);
    // All have all HANDS: none can come home. 0 and 1 are with 2, the third with 1.
    due("17: all lost", x.lost(), 7);
    due("18: 1 can have all", x.strangers(), 2);
    Check.rule(x, "bar day = 6");
    x.force(0);
    // Now those with 2 stay there, the third is with 1 or 0.
    due("18: the least set", x.strangers(), 5);
    x.rest(6);
    due("18: with 1 and 2", x.strangers(), 6);
  }

  private static void promise20() {
    OtherHands x = Check.in("people 6;meet 1 0 1;meet 2 1 2;meet 3 2 0;meet 4 0 1;meet 5 2 3;meet 6 3 0;meet 7 3 4;meet 8 4 5;meet 9 5 0");
    due("20: three", x.rings(3, 0), 2);
    due("20: three", x.rings(3, 1), 1);
    due("20: four", x.rings(4, 0), 2);
    due("20: four", x.rings(4, 1), 1);
    due("20: five", x.rings(5, 4), 1);
    due("20: six", x.rings(6, 0), 1);
    due("20: wrong", x.rings(2, 0), NONE);
    due("20: wrong", x.rings(7, 0), NONE);
    due("20: wrong", x.rings(3, 6), NONE);
    due("20: wrong", x.rings(3, -1), NONE);
    x = Check.in("people 2;meet 1 0 1;meet 1 1 0");
    due("20: too few", x.rings(3, 0), 0);
    x = Check.in("people 5;meet 0 0 1;meet 0 0 2;meet 0 0 3;meet 0 0 4;meet 0 1 2;meet 0 1 3;meet 0 1 4;meet 0 2 3;meet 0 2 4;meet 0 3 4");
    due("20: all", x.rings(3, 2), 6);
    due("20: all", x.rings(4, 2), 12);
    due("20: all", x.rings(5, 2), 12);
    due("20: all", x.rings(6, 2), 0);
  }

  private static void promise21() {
    OtherHands x = Check.in("people 3;year 5;coin 2 0 0;meet 3 0 1;meet 9 2 0;meet 20 0 1");
    due("21: never", x.never(0, 400), 10);
    due("21: not in these", x.never(0, 10), -2);
    due("21: just in these", x.never(0, 11), 10);
    due("21: never", x.never(1, 1), -2);
    due("21: never", x.never(1, 400), 4);
    due("21: wrong", x.never(0, 0), NONE);
    due("21: wrong", x.never(0, 401), NONE);
    due("21: wrong", x.never(3, 1), NONE);
    due("21: wrong", x.never(-1, 1), NONE);
    x.rest(4);
    due("21: from now on", x.never(1, 400), 4);
    due("21: from now on", x.never(0, 400), 10);
    x.rest(12);
    due("21: from now on", x.never(0, 400), 21);
    Check.rule(x, "bar coin = 1 and worth = 1 and hands = 1 and age = 2");
    x.force(0);
    due("21: barred", x.never(0, 400), 18);
  }

  private static void promise22and23() {
    OtherHands x = Check.in("people 3;year 10;coin 5 0 0;coin 7 1 0;meet 2 0 1;meet 3 1 2;meet 4 2 0");
    due("23: none told", x.met(0), 8);
    due("23: none told", x.met(1), 0);
    due("23: none told", x.met(2), 0);
    due("23: wrong", x.met(3), NONE);
    due("23: wrong", x.met(-1), NONE);
    CHECK.due("22: wrong", x.came(2, 1), false);
    CHECK.due("22: wrong", x.came(-1, 1), false);
    CHECK.due("22: wrong", x.came(0, 2), false);
    CHECK.due("22: wrong", x.came(0, -2), false);
    due("22: none told", x.count(8), 0);
    CHECK.due("22: told", x.came(0, 1), true);
    // 0 meets on MEETINGS 0 or 2.
    due("23: sets", x.met(0), 6);
    CHECK.due("22: told", x.came(1, 0), true);
    due("22: two told", x.count(8), 2);
    due("23: sets", x.met(0), 1);
    due("23: in all", x.met(1), 4);
    due("23: in none", x.met(2), 3);
    x.came(0, 0);
    due("23: sets", x.met(0), 1);
    due("23: in all", x.met(1), 0);
    due("23: in none", x.met(2), 7);
    x.came(0, NONE);
    due("22: one told", x.count(8), 1);
    due("23: sets", x.met(0), 2);
    due("23: in none", x.met(2), 3);
    x.rest(11);
    due("23: VOID", x.met(0), 8);
    x.came(0, 1);
    due("23: no set", x.met(0), 0);
    due("23: no set", x.met(1), 0);
    due("23: no set", x.met(2), 0);
    x = Check.in("people 3;coin 1 0 0;meet 1 0 1;meet 1 0 1;meet 1 0 1;meet 1 0 1;meet 1 0 1;meet 1 0 1;meet 1 0 1;meet 1 0 1;meet 1 0 2");
    x.came(0, 0);
    due("23: the ninth was", x.met(0), 0);
    x.came(0, 1);
    due("23: the first eight", x.met(0), 256);
    x = Check.in("people 2;coin 1 0 0");
    due("23: no MEETINGS", x.met(0), 1);
    x.came(0, 1);
    due("23: no MEETINGS", x.met(0), 0);
  }

  private static void promise24and25() {
    OtherHands x = Check.in("people 3;year 9;coin 5 0 0;coin 5 1 0");
    due("24: seed", x.seed(5), 0);
    due("24: seed", x.seed(-1), NONE);
    due("24: seed", x.seed(2147483647), 5);
    due("24: x", x.count(9), 2147483647);
    due("24: seed", x.seed(1), 2147483647);
    Check.rule(x, "pay strange = 1;home 1=1");
    Check.rule(x, "pay 1=2");
    // From 1: DRAWS 16838, 5758 mod 3 are 2, 1: the second one's coin goes to the first one.
    due("25: one day", x.years(0, 1, 1, 0), 1);
    // Then 10113, 17515 mod 3 are 0, 1: coin 0 to 1; 31051, 5627 are 1, 2: coin 0 to 2, coin 1 to 1.
    due("25: two days", x.years(0, 1, 2, 0), 2);
    due("25: three days", x.years(0, 1, 3, 0), 4);
    // Each time from now on, the DRAWS go on: 0, 1 is one exchange, both come home.
    due("25: two times", x.years(0, 2, 1, 0), 3);
    due("25: VOID", x.years(1, 3, 9, 1), 0);
    due("25: VOID", x.years(1, 3, 10, 1), 6);
    due("25: x as it was", x.count(9), 1);
    due("25: nothing stays", x.count(3), 0);
    due("25: wrong", x.years(2, 1, 1, 0), NONE);
    due("25: wrong", x.years(-1, 1, 1, 0), NONE);
    due("25: wrong", x.years(0, 0, 1, 0), NONE);
    due("25: wrong", x.years(0, 11, 1, 0), NONE);
    due("25: wrong", x.years(0, 1, 0, 0), NONE);
    due("25: wrong", x.years(0, 1, 401, 0), NONE);
    due("25: wrong", x.years(0, 1, 1, 2), NONE);
    due("25: wrong", x.years(0, 1, 1, -1), NONE);
  }

  private static void promise26() {
    OtherHands x = Check.in("people 3;year 9;coin 5 0 0;coin 5 1 4;meet 3 1 2;meet 5 0 1;meet 6 0 1");
    Check.rule(x, "pay 1=1;home 1=1");
    x.force(0);
    x.run(0, 4);
    x.rest(6);
    x.came(1, 0);
    x.seed(9);
    x.feed(0, 0, 0, 0, 0);
    int[] wants = {3, 2, 3, 10, 1, 1, 0, 9, 1, 9, 20, 1};
    for (int what = 0; what < wants.length; what++) {
      due("26: count(" + what + ")", x.count(what), wants[what]);
    }
    due("26: others", x.count(12), NONE);
    due("26: others", x.count(-1), NONE);
  }

  private static void promise27and28() {
    OtherHands x = new OtherHands();
    due("27: without a TOWN", x.image(3), 0);
    Check.town(x, "people 3;coin 5 0 0;meet 0 0 1;meet 2 0 1");
    Check.rule(x, "bar 1=2");
    x.force(0);
    x.seed(4);
    x.came(0, 1);
    x.pay(0, 1);
    due("27: image", x.image(0), 0);
    due("27: wrong", x.image(4), NONE);
    due("27: wrong", x.image(-1), NONE);
    x.home(0);
    x.rest(2);
    due("27: image", x.image(1), 2);
    x.force(NONE);
    x.seed(8);
    x.came(0, NONE);
    Check.town(x, "people 9;coin 1 8 0;coin 2 7 0");
    Check.rule(x, "bar 1=3");
    x.feed(0, 0, 0, 0, 0);
    due("28: never made", x.back(2), NONE);
    due("28: wrong", x.back(4), NONE);
    due("28: wrong", x.back(-1), NONE);
    due("28: nothing happened", x.count(0), 9);
    due("28: back", x.back(0), 0);
    int[] wants = {3, 1, 2, 0, 0, 2, 0, 365, 1, 4, 20, 0};
    for (int what = 0; what < wants.length; what++) {
      due("28: count(" + what + ")", x.count(what), wants[what]);
    }
    due("28: NEW", x.coin(0, 4), 1);
    due("28: HANDS", x.coin(0, 3), 3);
    due("28: on", x.back(1), 2);
    due("28: homecomings", x.count(4), 1);
    due("28: STAMP", x.coin(0, 2), 0);
    x.pay(0, 0);
    due("28: the image stays", x.back(1), 2);
    due("28: who", x.coin(0, 1), 1);
    due("28: to no TOWN", x.back(3), 0);
    due("28: no TOWN", x.lost(), NONE);
    due("28: no RULE IN FORCE", x.count(6), NONE);
    due("28: the RULES stay", x.count(5), 2);
    due("27: made anew", x.image(0), 0);
    due("28: back", x.back(0), 0);
    due("28: no TOWN", x.count(0), 0);
  }

  /** One bar TEST, asked of a COIN that is to be paid. */
  private static void bars(String test, boolean want) {
    OtherHands x = Check.in("people 4;coin 7 1 0;coin 9 1 3;meet 5 1 2");
    due("RULE: " + test, Check.rule(x, "bar " + test), 0);
    x.force(0);
    x.rest(5);
    due("TEST: " + test, x.pay(1, 2), want ? -5 : 0);
  }

  /** An age below 0 is the only VALUE below 0, by which / can be told from floorDiv. */
  private static void ageBelow() {
    OtherHands x = Check.in("people 2;coin 7 0 3;meet 0 0 1");
    Check.rule(x, "bar age=0-3 and age/2=0-1");
    x.force(0);
    due("TEST: age below 0", x.pay(0, 1), -5);
  }

  private static void tests() {
    bars("coin=1 and worth=9 and age=2 and hands=1 and strange=1 and purse=2 and giver=1 and taker=2 and day=5", true);
    bars("1=1 or 1=1 and 1=2", true);
    bars("[1=1 or 1=1] and 1=2", false);
    bars("not 1=2 and 1=2", false);
    bars("not [1=2 and 1=2]", true);
    bars("not not 1=1", true);
    bars("2+3*4=14", true);
    bars("10-3-2=5", true);
    bars("24/4*3=18", true);
    bars("24/4/3=2", true);
    bars("7/2=3", true);
    bars("0-7/2=0-3", true);
    bars("age/2=0-1", false);
    bars("taker-giver*8/2=0-2", true);
    bars("5/0=0", true);
    bars("0/0=0", true);
    bars("1<1", false);
    bars("1<=1", true);
    bars("2<=1", false);
    bars("1>=1", true);
    bars("1>=2", false);
    bars("1>1", false);
    bars("2>1", true);
    bars("0-1<0", true);
    bars("65536*65536*65536*65536=0", true);
    bars("65536*65536*65536*32768<0", true);
    bars("65536*65536*65536*32768-1>0", true);
    bars("1=2;bar 1=1", true);
    bars("1=2;pay 1=1;home 1=1", false);
  }

  public static void main(String[] args) {
    promise1();
    promise2and3();
    promise4();
    promise5and6();
    promise7();
    promise8and9();
    promise10();
    promise11();
    promise12();
    promise13and14();
    promise13order();
    promise15and16();
    promise15ways();
    promise17to19();
    promise18sets();
    promise20();
    promise21();
    promise22and23();
    promise24and25();
    promise26();
    promise27and28();
    tests();
    ageBelow();
    CHECK.close();
  }
}
