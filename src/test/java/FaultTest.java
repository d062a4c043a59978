/** The FAULTS of TOWNS and RULES: promises 4 and 5. */
public final class FaultTest {
  private static final Check CHECK = new Check();

  private static void town(String text, int want) {
    OtherHands x = new OtherHands();
    CHECK.due("town \"" + text + "\"", Check.town(x, text), want);
    CHECK.due("TAPE behind town \"" + text + "\"", x.count(10), 0);
    CHECK.due("TOWN behind \"" + text + "\"", x.count(0) > 0, want >= 0);
  }

  private static void rule(String text, int want) {
    OtherHands x = new OtherHands();
    CHECK.due("rule \"" + text + "\"", Check.rule(x, text), want);
    CHECK.due("TAPE behind rule \"" + text + "\"", x.count(10), 0);
    CHECK.due("RULES behind \"" + text + "\"", x.count(5), want < 0 ? 0 : 1);
  }

  /** A FAULT at the first place of a part of the text. */
  private static int at(String text, String part, int kind) {
    return Check.fault(text.indexOf(part), kind);
  }

  private static String times(String part, int n) {
    return part.repeat(n);
  }

  private static void townsThatStand() {
    town("people 2", 0);
    town("people2", 0);
    town("  people   10  ", 0);
    town("people 00002;year 999;year5".substring(0, 21), 0);
    town("people 2;year 1", 0);
    town("people 2 ; coin 1 0 0;coin99 1 999", 2);
    town("people 3;meet 0 0 1;meet 1999 2 1", 0);
    town("people 2" + times(";coin 1 0 0", 8) + times(";meet 1 0 1", 24) + ";year 5", 8);
  }

  private static void townsOfBytes() {
    town("", Check.fault(0, 0));
    town("   ", Check.fault(3, 0));
    town("people", Check.fault(6, 0));
    town("people  ", Check.fault(8, 0));
    town("peoples 2", Check.fault(0, 0));
    town("People 2", Check.fault(0, 0));
    town(";", Check.fault(0, 0));
    town("people 2;", Check.fault(9, 0));
    town("people 2;  ", Check.fault(11, 0));
    town("people 2 2", Check.fault(9, 0));
    town("people 2\0", Check.fault(8, 0));
    town("people 2\u00e9", Check.fault(8, 0));
    town("people -2", Check.fault(7, 0));
    town("people 2;pay 1 = 1", Check.fault(9, 0));
    town("people 2;;year 5", Check.fault(9, 0));
    town("people 2;coin 1 0", Check.fault(17, 0));
    town("people 2;coin 1 0;", Check.fault(17, 0));
    town("people 2;coin 1 00", Check.fault(18, 0));
    town("people 2;coin 1 0 0 0", Check.fault(20, 0));
    town("people 2;meet 1 0 x", Check.fault(18, 0));
  }

  private static void townsOfNumbers() {
    town("people 1", Check.fault(7, 1));
    town("people 11", Check.fault(7, 1));
    town("people 000002", Check.fault(7, 1));
    town("people 999999999999999999", Check.fault(7, 1));
    town("people 2;year 0", Check.fault(14, 1));
    town("people 2;year 1000", Check.fault(14, 1));
    town("people 2;coin 0 0 0", Check.fault(14, 1));
    town("people 2;coin 100 0 0", Check.fault(14, 1));
    town("people 2;coin 1 2 0", Check.fault(16, 1));
    town("people 2;coin 1 0 1000", Check.fault(18, 1));
    town("people 2;meet 2000 0 1", Check.fault(14, 1));
    town("people 2;meet 1 2 0", Check.fault(16, 1));
    town("people 2;meet 1 0 2", Check.fault(18, 1));
    town("people 2;meet 1 1 1", Check.fault(18, 1));
    town("people 2;meet 1 1 1 ?", Check.fault(18, 1));
  }

  private static void townsOfClauses() {
    town("year 5", Check.fault(0, 4));
    town(" coin 1 0 0;people 2", Check.fault(1, 4));
    town("meet", Check.fault(0, 4));
    town("people 2;people 2", Check.fault(9, 4));
    town("people 2;year 5; year 5", Check.fault(17, 4));
    String coins = "people 2" + times(";coin 1 0 0", 8);
    town(coins + ";coin", Check.fault(coins.length() + 1, 4));
    town(coins + ";coins", Check.fault(coins.length() + 1, 0));
    String meetings = "people 2" + times(";meet 1 0 1", 24);
    town(meetings + "; meet 1 0 1", Check.fault(meetings.length() + 2, 4));
    town(meetings + ";", Check.fault(meetings.length() + 1, 0));
  }

  private static void rulesThatStand() {
    rule("pay 1=1", 0);
    rule("bar 1 = 1;home not 1 < 2", 0);
    rule("pay[1=1]and not[2=2]or 3>=4", 0);
    rule("pay 1=1or 2=2and 3=3", 0);
    rule("pay coin+worth-age*hands/strange<=purse+giver-taker*day", 0);
    rule("pay 99999 > 00000", 0);
    rule("pay notnot = 1", at("pay notnot = 1", "notnot", 0));
    rule("pay 1=1" + times(";bar 1=1", 11), 0);
    rule("pay " + times("[", 10) + "1=1" + times("]", 10), 0);
    rule("pay " + times("not ", 10) + "1=1", 0);
    rule("pay [not [not 1=1]] or " + times("not[", 5) + "1=1" + times("]", 5), 0);
    rule("pay 1" + times("+1", 57) + "=1", 0);
    rule("pay 1=1" + times(" or 1=1", 19), 0);
  }

  private static void rulesOfBytes() {
    rule("", Check.fault(0, 0));
    rule("pay", Check.fault(3, 0));
    rule("home", Check.fault(4, 0));
    rule("bar 1", Check.fault(5, 0));
    rule("pays 1", Check.fault(0, 0));
    rule("people 2", Check.fault(0, 0));
    rule("pay x", Check.fault(4, 0));
    rule("pay pay = 1", Check.fault(4, 0));
    rule("home age = 1;", Check.fault(13, 0));
    rule("pay age = 1]", Check.fault(11, 0));
    rule("pay age 1", Check.fault(8, 0));
    rule("pay age1=1", Check.fault(7, 0));
    rule("pay 1 = 1 = 1", Check.fault(10, 0));
    rule("pay 1 < = 1", Check.fault(8, 0));
    rule("pay 1 => 1", Check.fault(7, 0));
    rule("pay 1 == 1", Check.fault(7, 0));
    rule("pay 1 ! 1", Check.fault(6, 0));
    rule("pay -1 = 1", Check.fault(4, 0));
    rule("pay 1 + = 1", Check.fault(8, 0));
    rule("pay 1 = 1 orr 1 = 1", Check.fault(10, 0));
    rule("pay 1 = 1 or", Check.fault(12, 0));
    rule("pay 1 = 1 and ", Check.fault(14, 0));
    rule("pay not", Check.fault(7, 0));
    rule("pay [1] = 1", Check.fault(6, 0));
    rule("pay [1 = 1", Check.fault(10, 0));
    rule("pay [1 = 1;pay 1 = 1", Check.fault(10, 0));
    rule("pay [1 = 1] [", Check.fault(12, 0));
    rule("pay [1 = 1] + 1", Check.fault(12, 0));
    rule("pay (1 = 1)", Check.fault(4, 0));
    rule("pay 1 = Age", Check.fault(8, 0));
    rule("pay [] ", Check.fault(5, 0));
  }

  private static void rulesOfNumbers() {
    rule("pay 100000 = 1", Check.fault(4, 1));
    rule("pay 1 = 000001", Check.fault(8, 1));
    rule("pay 1 = 1 * 123456x", Check.fault(12, 1));
  }

  private static void rulesTooDeep() {
    rule("pay " + times("[", 11) + "1=1", Check.fault(14, 2));
    rule("pay " + times("not ", 11) + "1=1", Check.fault(44, 2));
    rule("pay " + times("not[", 5) + "not 1=1", Check.fault(24, 2));
    rule("pay " + times("[", 10) + "1=1 and not 2=2", Check.fault(22, 2));
    rule("pay " + times("not ", 10) + "1=1 or " + times("not ", 10) + "[1=1]", Check.fault(91, 2));
  }

  private static void rulesTooLong() {
    String sum = "pay 1" + times("+1", 58);
    rule(sum + "=1", Check.fault(sum.length() + 1, 3));
    rule(sum + "=x", Check.fault(sum.length() + 1, 0));
    rule(sum + "=123456", Check.fault(sum.length() + 1, 1));
    rule(sum + "+1 <= 1", Check.fault(sum.length() + 3, 3));
    rule(sum + "+1+1 = 1", Check.fault(sum.length() + 3, 3));
    String facts = "pay 1=1" + times(" or 1=1", 19);
    rule(facts + ";bar age = 1", Check.fault(facts.length() + 5, 3));
    rule(facts + " or aged", Check.fault(facts.length() + 4, 0));
    rule(facts + ";bar", Check.fault(facts.length() + 4, 0));
  }

  private static void rulesOfClauses() {
    String twelve = "pay 1=1" + times(";bar 1=1", 11);
    rule(twelve + ";home 1=1", Check.fault(twelve.length() + 1, 4));
    rule(twelve + "; bar", Check.fault(twelve.length() + 2, 4));
    rule(twelve + ";bars", Check.fault(twelve.length() + 1, 0));
    rule(twelve + ";", Check.fault(twelve.length() + 1, 0));
  }

  public static void main(String[] args) {
    townsThatStand();
    townsOfBytes();
    townsOfNumbers();
    townsOfClauses();
    rulesThatStand();
    rulesOfBytes();
    rulesOfNumbers();
    rulesTooDeep();
    rulesTooLong();
    rulesOfClauses();
    CHECK.close();
  }
}
