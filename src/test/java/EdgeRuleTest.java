/** The edges of RULES: promises 5 and 6, and what the terms say of a RULE and of its WORDS. */
public final class EdgeRuleTest {
  private static final Check CHECK = new Check();
  private static final int NONE = OtherHands.NONE;

  private static void due(String call, long got, long want) {
    CHECK.due(call, got, want);
  }

  private static void stands(String text) {
    OtherHands x = new OtherHands();
    due("rule \"" + text + "\"", Check.rule(x, text), 0);
    due("the TAPE behind \"" + text + "\"", x.count(10), 0);
    due("RULES behind \"" + text + "\"", x.count(5), 1);
    due("none IN FORCE behind \"" + text + "\"", x.count(6), NONE);
  }

  /** The fault is at the sign |, which is not of the text. */
  private static void fails(String marked, int kind) {
    int place = marked.indexOf('|');
    String text = marked.replace("|", "");
    OtherHands x = Check.busy();
    x.end(0);
    String before = Check.all(x);
    due("rule \"" + text + "\"", Check.rule(x, text), Check.fault(place, kind));
    CHECK.same("what stays behind \"" + text + "\"", Check.all(x), before);
    due("the next RULE's number", Check.rule(x, "pay 1=1"), 2);
  }

  /** Whether a TEST bars the COIN 1 (WORTH 9, STAMP 3) of two from 1 to 2 on day 2. */
  private static void holds(String test, boolean want) {
    OtherHands x = Check.in("people 4;coin 7 1 0;coin 9 1 3;meet 2 1 2");
    due("rule \"" + test + "\"", Check.rule(x, "bar " + test), 0);
    x.force(0);
    x.rest(2);
    due("bar " + test, x.pay(1, 2), want ? -5 : 0);
  }

  private static String blanks(int n) {
    return " ".repeat(n);
  }

  private static void sixRules() {
    CHECK.says("RULES 0 to 5; 5: its number");
    OtherHands x = Check.in("people 2;coin 1 0 0;coin 2 1 0;meet 0 0 1");
    for (int i = 0; i < 6; i++) {
      due("rule " + i, Check.rule(x, i % 2 == 0 ? "pay 1=1" : "pay coin=" + i / 2), i);
      due("the TAPE", x.count(10), 0);
      due("RULES", x.count(5), i + 1);
    }
    int[] paid = {2, 1, 2, 1, 2, 0};
    for (int i = 0; i < 6; i++) {
      due("payments by " + i, x.ahead(i, 1, 2), paid[i]);
    }

    CHECK.says("5: NONE, and nothing happens: there are 6");
    Check.put(x, "people 2;coin 3 0 0");
    String before = Check.all(x);
    due("a seventh", x.rule(), NONE);
    CHECK.same("all", Check.all(x), before);
    due("the TAPE", x.count(10), 19);
    due("its bytes are those of before", x.town(), 1);
    due("of no bytes", x.rule(), NONE);
    due("one that stands", Check.rule(x, "pay 1=1"), NONE);
    due("the TAPE", x.count(10), 7);
    due("RULES", x.count(5), 6);
    due("payments by the last one", x.ahead(5, 1, 2), 0);

    CHECK.says("5: -2 - its FAULT");
    x = new OtherHands();
    due("of no bytes", x.rule(), -3);
    due("the greatest fault there can be", Check.rule(x, "pay" + blanks(397)), -2 - (1 + 8 * 400));
    for (int i = 0; i < 8; i++) {
      due("a fault is no RULE", Check.rule(x, "pay"), Check.fault(3, 0));
    }
    due("none", x.count(5), 0);
  }

  private static void force() {
    CHECK.says("6: A RULE is IN FORCE (NONE: none): which was");
    OtherHands x = new OtherHands();
    due("none at first", x.count(6), NONE);
    due("none for none", x.force(NONE), NONE);
    for (int i = 0; i < 6; i++) {
      Check.rule(x, "pay 1=1");
      due("the last one", x.force(i), i - 1);
      due("one beyond", x.force(i + 1), -2);
      due("which is", x.count(6), i);
    }
    due("the first one", x.force(0), 5);
    due("itself", x.force(0), 0);
    due("none", x.force(NONE), 0);
    due("which is", x.count(6), NONE);

    CHECK.says("6: -2, and nothing happens, if there is none such");
    CHECK.refuses("force", -2, n -> y -> y.force(n), -2, 2, 6);
    due("without RULES", new OtherHands().force(0), -2);
  }

  private static void longest() {
    CHECK.says("texts likewise (at most 400 bytes)");
    stands("pay 1=1" + blanks(393));
    stands(blanks(393) + "pay 1=1");
    fails("pay 1=1" + blanks(392) + "|x", 0);
    fails("pay 1=" + blanks(394) + "|", 0);
    OtherHands x = Check.in("people 2;coin 1 0 0;meet 0 0 1");
    Check.rule(x, "pay" + blanks(394) + "1=1");
    due("the last byte", x.ahead(0, 1, 2), 1);

    CHECK.says("12 CLAUSES at most; one CLAUSE too many (at its first byte)");
    String twelve = "pay 1=1" + ";bar 1=1".repeat(11);
    stands("pay 1=1" + ";bar 1=1".repeat(10));
    stands(twelve);
    fails(twelve + ";|bar 1=1", 4);
    fails(twelve + "; |home", 4);
    fails(twelve + ";|pay 1=1;bar 1=1", 4);
    x = Check.in("people 2;coin 1 0 0;meet 0 0 1");
    Check.rule(x, "pay 1=1" + ";home 1=2".repeat(11));
    Check.rule(x, "home 1=2;".repeat(11) + "pay 1=1");
    due("the first of twelve", x.ahead(0, 1, 2), 1);
    due("the last of twelve", x.ahead(1, 1, 2), 1);
  }

  private static void numbers() {
    CHECK.says("NUMBER (1 to 5 digits, as far as digits go on)");
    holds("99999=100*1000-1", true);
    holds("00000=0", true);
    holds("00009=9", true);
    fails("pay |100000=1", 1);
    fails("pay 1=|000001", 1);
    fails("pay 1=|99999999999999999999", 1);
    fails("pay |=1", 0);
    fails("pay 1=|", 0);
    fails("pay |-1=1", 0);
    fails("pay 1 |2=1", 0);
    fails("pay 1 |123456", 0);

    CHECK.says("WORDS (small letters, as far as these go on)");
    stands("pay1=1");
    stands("pay age=1or age=2");
    stands("pay not age=1and not age=2");
    fails("|payage=1", 0);
    fails("|payz 1=1", 0);
    fails("|xay 1=1", 0);
    fails("|pa 1=1", 0);
    fails("pay 1=1 |xnd 1=1", 0);
    fails("pay 1=1 |an 1=1", 0);
    fails("pay 1=1 |ands 1=1", 0);
    fails("pay 1=1 |xr 1=1", 0);
    fails("pay 1=1 |o 1=1", 0);
    fails("pay 1=1 |ors 1=1", 0);
    fails("pay |xot 1=1", 0);
    fails("pay |nots 1=1", 0);
    fails("pay |xorth=1", 0);
    fails("pay |ages=1", 0);
    fails("pay |ag=1", 0);
    fails("pay age|2=1", 0);
    fails("pay 2|age=1", 0);
    fails("pay 1=1 |orage=1", 0);
    fails("pay |notage=1", 0);
    fails("pay |Age=1", 0);
    fails("pay |agE=1", 0);
    fails("pay |or 1=1", 0);
    fails("pay 1=|not 1", 0);
    fails("pay 1+|not 1=1", 0);
    for (int b = 0; b < 256; b++) {
      char c = (char) b;
      if ("|;+-*/ ".indexOf(c) < 0 && (c < '0' || c > '9')) {
        fails("pay 1=1|" + c, 0);
      }
    }
  }

  private static void division() {
    CHECK.says("/ is towards 0, 0 by 0");
    holds("7/2=3", true);
    holds("age=0-1 and 7*age/2=0-3", true);
    holds("1*age/2=0", true);
    holds("7/0=0", true);
    holds("0/0=0", true);
    holds("7/0*5+1=1", true);
    holds("7/coin/2=3", true);
    holds("1+7/0=1", true);
    holds("age/0=0", true);

    CHECK.says("all goes round in 64 bits");
    String least = "65536*65536*65536*32768";
    holds(least + "<0", true);
    holds(least + "-1>0", true);
    holds(least + "-1+1<0", true);
    holds(least + "-1+1=" + least, true);
    holds(least + "*2=0", true);
    holds(least + "-" + least + "=0", true);
    holds(least + "+" + least + "=0", true);
    // The least of all numbers by -1 is itself again.
    holds(least + "/age=" + least, true);
    holds(least + "*age=" + least, true);
    holds("65536*65536>65536", true);
    holds("65536*32768=0-65536*32768", false);
    holds("99999*99999*99999>0", true);
    holds("99999*99999*99999*99999/99999/99999/99999=7762", true);
  }

  private static void signs() {
    CHECK.says("SIGN one of < <= = >= >");
    String[] all = {"<", "<=", "=", ">=", ">"};
    boolean[][] want = {{true, false, false}, {true, true, false}, {false, true, false}, {false, true, true}, {false, false, true}};
    for (int i = 0; i < all.length; i++) {
      holds("8" + all[i] + "worth", want[i][0]);
      holds("9" + all[i] + "worth", want[i][1]);
      holds("10" + all[i] + "worth", want[i][2]);
      holds("0-1 " + all[i] + " 0", want[i][0]);
      for (int n = 8; n <= 10; n++) {
        String fact = n + all[i] + "worth";
        holds("not " + fact, !want[i][n - 8]);
        holds(fact + " and 1=1", want[i][n - 8]);
        holds("1=1 and " + fact, want[i][n - 8]);
        holds(fact + " or 1=2", want[i][n - 8]);
        holds("not [" + fact + " and " + fact + "]", !want[i][n - 8]);
      }
    }
    fails("pay 1<|<1", 0);
    fails("pay 1<|>1", 0);
    fails("pay 1=|<1", 0);
    fails("pay 1< |=1", 0);
    fails("pay 1> |=1", 0);
    fails("pay 1>=|=1", 0);
    fails("pay 1<2|<3", 0);
    fails("pay 1|", 0);
    fails("pay 1|;pay 1=1", 0);
    fails("pay 1|or 1=1", 0);
    fails("pay 1<|", 0);
    fails("pay 1<=|", 0);
    OtherHands x = new OtherHands();
    Check.put(x, "pay 1<=1");
    due("end", x.end(6), 6);
    due("a sign = that was cut off", x.rule(), Check.fault(6, 0));
    fails(blanks(394) + "pay 1>|", 0);
  }

  private static void words() {
    CHECK.says("WORDS of a COIN that is to be paid or brought home");
    holds("coin=1 and worth=9 and age=0-1 and hands=1 and strange=1", true);
    holds("purse=2 and giver=1 and taker=2 and day=2", true);
    // Ten HANDS, eight in a purse, the last COIN and the last of PEOPLE.
    StringBuilder sb = new StringBuilder("people 10" + ";coin 1 9 0".repeat(7) + ";coin 99 0 0");
    for (int i = 0; i < 9; i++) {
      sb.append(";meet 0 ").append(i).append(' ').append(i + 1);
    }
    OtherHands x = Check.in(sb + ";meet 0 9 0");
    for (int i = 1; i < 10; i++) {
      due("pay", x.pay(7, i), 0);
    }
    due("all HANDS", x.coin(7, 3), 1023);
    Check.rule(x, "bar coin=7 and worth=99 and hands=10 and strange=0 and purse=8 and giver=9 and taker=0 and day=0 and age=0");
    Check.rule(x, "bar coin=7 and worth=99 and hands=10 and strange=1 and purse=8 and giver=9 and taker=9 and day=0 and age=0");
    x.force(0);
    due("to be paid", x.pay(7, 0), -5);
    x.force(1);
    due("for home the giver, NEW to him", x.home(7), -5);
    due("not so for another", x.pay(7, 0), 0);
    x.force(NONE);
    due("not NEW", x.home(7), -4);
  }

  private static void depth() {
    CHECK.says("[ and not lie within one another 10 deep at most; too deep (at the sign that opens, or the word not)");
    stands("pay " + "[".repeat(10) + "1=1" + "]".repeat(10));
    fails("pay " + "[".repeat(10) + "|[1=1" + "]".repeat(11), 2);
    stands("pay " + "not ".repeat(10) + "1=1");
    fails("pay " + "not ".repeat(10) + "|not 1=1", 2);
    stands("pay " + "not[".repeat(5) + "1=1" + "]".repeat(5));
    fails("pay " + "not[".repeat(5) + "|not 1=1" + "]".repeat(5), 2);
    fails("pay " + "not[".repeat(5) + "|[1=1]" + "]".repeat(5), 2);
    fails("pay " + "not ".repeat(10) + "|[1=1]", 2);
    fails("pay " + "[".repeat(10) + "|not 1=1" + "]".repeat(10), 2);
    fails("pay " + "[".repeat(10) + "1=1 or |not 1=1" + "]".repeat(10), 2);
    fails("pay " + "[".repeat(10) + "1=1 and |[1=1]" + "]".repeat(10), 2);
    // What is closed lies no longer about what follows.
    stands("pay " + "[".repeat(10) + "1=1" + "]".repeat(10) + " and " + "[".repeat(10) + "1=1" + "]".repeat(10));
    stands("pay " + "[".repeat(9) + "[1=1] or [1=1] and not 1=1" + "]".repeat(9));
    stands("pay " + "not ".repeat(10) + "1=1 and " + "not ".repeat(10) + "1=1;bar " + "[".repeat(10) + "1=1" + "]".repeat(10));
    fails("pay " + "[".repeat(9) + "[1=1] or not |not 1=1" + "]".repeat(9), 2);
    holds("not ".repeat(10) + "1=1", true);
    holds("not ".repeat(9) + "1=1", false);
    holds("not[".repeat(5) + "1=1" + "]".repeat(5), false);
    holds("[".repeat(10) + "1=2" + "]".repeat(10) + " or 1=1", true);
    fails("pay [1=1|", 0);
    fails("pay [[1=1]|", 0);
    fails("pay [1=1]|]", 0);
    fails("pay [1=1|;bar 1=1]", 0);
    fails("pay [|]", 0);
    fails("pay not|", 0);
    fails("pay [1=1] |[1=1]", 0);
    fails("pay [1=1] |not 1=1", 0);
    fails("pay [1|]=1", 0);
  }

  private static void sixty() {
    CHECK.says("at most 60 VALUES and FACTS made of a SIGN, together; one too many (at its first byte; of a FACT at its SIGN)");
    String sum = "pay 1" + "+1".repeat(57);
    stands(sum + "=1");
    fails(sum + "+1=|1", 3);
    fails(sum + "+1 = |worth", 3);
    fails(sum + "+1+1|=1", 3);
    fails(sum + "+1+1 |>= 1", 3);
    fails(sum + "+1+1+|1=1", 3);
    String facts = "1=1" + " or 1=1".repeat(19);
    stands("pay " + facts);
    stands("pay not " + facts + "  ");
    stands("pay [[" + facts + "]]");
    fails("pay " + facts + " or |1=1", 3);
    fails("pay " + facts + " and not [|age=1]", 3);
    fails("pay " + facts + ";bar |1=1", 3);
    String clauses = "pay 1=1" + ";bar 1+1+1*1=1".repeat(9);
    stands(clauses + ";home 1=1");
    fails(clauses + ";home 1=1;home |1=1", 3);
    holds("1=2 or ".repeat(19) + "1=1", true);
    holds("1=2 or ".repeat(19) + "1=2", false);
    // Not those of another RULE.
    OtherHands x = new OtherHands();
    due("one of sixty", Check.rule(x, "pay " + facts), 0);
    due("another one", Check.rule(x, "pay " + facts), 1);
    due("one with too many", Check.rule(x, "pay " + facts + " or 1=1"), Check.fault(4 + facts.length() + 4, 3));
    due("another one", Check.rule(x, "pay " + facts), 2);
  }

  private static void faults() {
    CHECK.says("a byte or WORD that can't stand there, or the end (behind the last byte)");
    fails("|", 0);
    fails("   |", 0);
    fails("|;", 0);
    fails("|people 2", 0);
    fails("|1=1", 0);
    fails("pay|", 0);
    fails("pay 1=1;|", 0);
    fails("pay 1=1; |;", 0);
    fails("pay 1=1 |pay 1=1", 0);
    fails("pay 1=1 or|", 0);
    fails("pay 1=1 and |or 1=1", 0);
    fails("pay 1+|+1=1", 0);
    fails("pay 1*|=1", 0);
    fails("pay |(1=1)", 0);

    CHECK.says("blanks (32) stand between as one likes");
    stands("  pay  not  [  1  +  1  <=  2  ]  ;  bar  1  =  1  ");
    stands("pay[1+1<=2]and[1=1];bar not[1=1]");
    fails("pay|\t1=1", 0);
    fails("pay |wo rth=1", 0);

    CHECK.says("the first along the text");
    fails("pay |x=123456;y", 0);
    fails("pay |123456=x", 1);
    fails("pay 1=1;|x " + "[".repeat(11), 0);
    fails("pay " + "[".repeat(10) + "|[123456=1", 2);

    CHECK.says("of one place the least");
    String twelve = "pay 1=1" + ";bar 1=1".repeat(11);
    fails(twelve + ";|bars 1=1", 0);
    fails(twelve + ";|", 0);
    String sum = "pay 1" + "+1".repeat(58);
    fails(sum + "=|x", 0);
    fails(sum + "=|", 0);
    fails(sum + "=|123456", 1);
    fails(sum + "+1|x", 0);
    fails(sum + "+1|", 0);
    fails(sum + "+1|]", 0);
    String facts = "pay 1=1" + " or 1=1".repeat(19);
    fails(facts + " or |pay", 0);
    fails(facts + " or |123456=1", 1);
    fails(facts + " or " + "[".repeat(10) + "|[1=1", 2);
  }

  public static void main(String[] args) {
    sixRules();
    force();
    longest();
    numbers();
    division();
    signs();
    words();
    depth();
    sixty();
    faults();
    CHECK.close();
  }
}
