/** The edges of the TAPE and of TOWNS: promises 2 to 4 and what the terms say of a TOWN. */
public final class EdgeTownTest {
  private static final Check CHECK = new Check();
  private static final int NONE = OtherHands.NONE;

  private static void due(String call, long got, long want) {
    CHECK.due(call, got, want);
  }

  private static void stands(String text, int coins) {
    OtherHands x = new OtherHands();
    due("town \"" + text + "\"", Check.town(x, text), coins);
    due("the TAPE behind \"" + text + "\"", x.count(10), 0);
  }

  /** The fault is at the sign |, which is not of the text. */
  private static void fails(String marked, int kind) {
    int place = marked.indexOf('|');
    String text = marked.replace("|", "");
    OtherHands x = new OtherHands();
    due("town \"" + text + "\"", Check.town(x, text), Check.fault(place, kind));
    due("the TAPE behind \"" + text + "\"", x.count(10), 0);
    due("no TOWN behind \"" + text + "\"", x.count(0), 0);
    OtherHands y = Check.busy();
    y.end(0);
    String before = Check.all(y);
    Check.town(y, text);
    CHECK.same("all stays behind \"" + text + "\"", Check.all(y), before);
  }

  private static String blanks(int n) {
    return " ".repeat(n);
  }

  private static void feed() {
    CHECK.says("2: how many it has; NONE, and none comes, if it would have more than 400");
    OtherHands x = new OtherHands();
    for (int i = 1; i <= 20; i++) {
      due("feed " + i, x.feed(-1, -1, -1, -1, -1), 20 * i);
    }
    due("feed beyond", x.feed(0, 0, 0, 0, 0), NONE);
    due("its bytes", x.count(10), 400);
    for (int n = 399; n > 380; n--) {
      due("end", x.end(n), n);
      due("feed behind " + n, x.feed(0, 0, 0, 0, 0), NONE);
      due("none came behind " + n, x.count(10), n);
    }
    due("end", x.end(380), 380);
    due("feed behind 380", x.feed(0, 0, 0, 0, 0), 400);
    x = new OtherHands();
    String text = "people 2;coin 3 1 9;meet 1999 1 0";
    Check.put(x, text + blanks(400 - text.length()));
    due("feed beyond", x.feed(-1, -1, -1, -1, -1), NONE);
    due("its bytes are those of before", x.town(), 1);

    CHECK.says("2: of each number the highest first");
    x = new OtherHands();
    x.feed(0x70656f70, 0x6c652039, 0x20202020, 0x3b796561, 0x72203939);
    due("twenty bytes", x.town(), 0);
    due("people 9", x.count(0), 9);
    due("year 99, the last two bytes", x.count(7), 99);
    x.feed(0x70656f70, 0x6c652032, 0x80000000, 0, 0);
    due("the byte 128", x.town(), Check.fault(8, 0));
    x.feed(0x70656f70, 0x6c652032, -1, -1, -1);
    due("the byte 255", x.town(), Check.fault(8, 0));
    x.feed(0x70656f70, 0x6c652032, 0x20202020, 0x20202020, 0x20202001);
    due("the last byte", x.town(), Check.fault(19, 0));
  }

  private static void end() {
    CHECK.says("3: its first n bytes alone: n");
    OtherHands x = new OtherHands();
    due("end(0) of none", x.end(0), 0);
    due("end(1) of none", x.end(1), NONE);
    Check.put(x, "people 2;coin 1 0 0;coin 2 0 0");
    due("end of all", x.end(30), 30);
    due("end of one less", x.end(29), 29);
    due("back to what is cut off", x.end(30), NONE);
    due("end", x.end(19), 19);
    due("fed behind it", x.feed(0x3b636f69, 0x6e203520, 0x31203420, 0x20202020, 0x20202020), 39);
    due("the two joined", x.town(), 2);
    due("the second COIN", x.coin(1, 0), 5);

    CHECK.says("3: NONE, and nothing happens, if it has not so many, or n is below 0");
    CHECK.refuses("end", NONE, n -> y -> y.end(n), 21, -1);
    x = new OtherHands();
    Check.put(x, "people 2;coin 1 0 0;coin 2 0 0");
    due("end(31)", x.end(31), NONE);
    due("end(-1)", x.end(-1), NONE);
    due("its bytes", x.count(10), 30);
    due("the bytes are those of before", x.town(), 2);
    due("end(1) behind town", x.end(1), NONE);
    due("end(0) behind town", x.end(0), 0);

    CHECK.says("3: its first n bytes alone");
    x = new OtherHands();
    Check.put(x, "people 10;coin 1 0 0");
    due("end", x.end(8), 8);
    due("a digit that was cut off", x.town(), Check.fault(7, 1));
    Check.put(x, "people 2; year 9");
    due("end", x.end(14), 14);
    due("a NUMBER that was cut off", x.town(), Check.fault(14, 0));
  }

  private static void longest() {
    CHECK.says("a TOWN is a text of at most 400 bytes");
    String text = "people 2;coin 3 1 9;meet 1999 1 0";
    stands(text + blanks(400 - text.length()), 1);
    stands(blanks(400 - text.length()) + text, 1);
    stands("people" + blanks(400 - text.length()) + text.substring(6), 1);
    OtherHands x = Check.in(blanks(400 - text.length()) + text);
    due("the last byte", x.meeting(0, 2), 0);
    fails(text + blanks(399 - text.length()) + "|x", 0);
    fails("people 2;" + blanks(391) + "|", 0);
    fails(blanks(400) + "|", 0);

    CHECK.says("COINS 0 to 7, MEETINGS 0 to 23, in the order told");
    StringBuilder sb = new StringBuilder("people 10");
    for (int i = 0; i < 24; i++) {
      sb.append(";meet ").append(i % 10).append(' ').append(i % 9).append(" 9");
      sb.append(i % 3 == 0 ? ";coin " + (i / 3 + 1) + " 9 " + i / 3 : "");
    }
    x = new OtherHands();
    due("town", Check.town(x, sb.toString()), 8);
    due("MEETINGS", x.count(2), 24);
    for (int i = 0; i < 24; i++) {
      due("meeting " + i, x.meeting(i, 0) * 100 + x.meeting(i, 1) * 10 + x.meeting(i, 2), i % 10 * 100 + i % 9 * 10 + 9);
    }
    for (int i = 0; i < 8; i++) {
      due("coin " + i, x.coin(i, 0) * 10 + x.coin(i, 2), (i + 1) * 10 + i);
    }
    stands("people 2" + ";coin 1 0 0".repeat(8) + ";meet 1 0 1".repeat(24) + ";year 9", 8);
  }

  private static void people() {
    CHECK.says("people NUMBER (2 to 10; once, the first CLAUSE)");
    for (int n = 2; n <= 10; n++) {
      due("people " + n, Check.in("people " + n).count(0), n);
    }
    fails("people |0", 1);
    fails("people |1", 1);
    fails("people |11", 1);
    fails("people |99999", 1);
    stands("people 00010", 0);
    stands("people 00002", 0);
    fails("people |000002", 1);
    fails("people |4294967298", 1);
    fails("people 2;|people 2", 4);
    fails("people 2;year 4;|people 3", 4);
    fails("|year 4;people 3", 4);
    fails("|coin 1 0 0;people 3", 4);
    fails("|meet 1 0 1;people 3", 4);
    fails("  |year", 4);
    fails("people|", 0);
    fails("people |;", 0);
    fails("people 2 |3", 0);
    fails("people |-2", 0);
  }

  private static void year() {
    CHECK.says("year NUMBER (1 to 999 days; once at most, 365 without)");
    due("without", Check.in("people 2").count(7), 365);
    due("of 1", Check.in("people 2;year 1").count(7), 1);
    due("of 999", Check.in("people 2;year 999").count(7), 999);
    due("of 00999", Check.in("people 2;year 00999").count(7), 999);
    due("the last CLAUSE", Check.in("people 2;coin 1 0 0;year 7").count(7), 7);
    OtherHands x = Check.in("people 2;year 7");
    due("a TOWN without one behind it", Check.town(x, "people 2"), 0);
    due("365 again", x.count(7), 365);
    due("one with a year", Check.town(x, "people 2;year 8"), 0);
    due("once in each text", Check.town(x, "people 2;year 9"), 0);
    due("its year", x.count(7), 9);
    due("twice", Check.town(x, "people 2;year 3;year 4"), Check.fault(16, 4));
    due("the year of before", x.count(7), 9);
    due("once behind that", Check.town(x, "people 2;year 5"), 0);
    due("its year", x.count(7), 5);
    fails("people 2;year |0", 1);
    fails("people 2;year |1000", 1);
    fails("people 2;year |000999", 1);
    fails("people 2;year 1;|year 1", 4);
    fails("people 2;year 1;coin 1 0 0;|year 1000", 4);
    fails("people 2;year|", 0);
    fails("people 2;year 1 |1", 0);
  }

  private static void coins() {
    CHECK.says("coin NUMBER NUMBER NUMBER (WORTH 1 to 99, in whose purse, its STAMP: a day 0 to 999)");
    OtherHands x = Check.in("people 10;coin 1 0 0;coin 99 9 999");
    due("WORTH", x.coin(0, 0) * 100 + x.coin(1, 0), 199);
    due("who", x.coin(0, 1) * 10 + x.coin(1, 1), 9);
    due("STAMP", x.coin(0, 2) * 1000 + x.coin(1, 2), 999);
    fails("people 10;coin |0 0 0", 1);
    fails("people 10;coin |100 0 0", 1);
    fails("people 10;coin |000001 0 0", 1);
    fails("people 10;coin 1 |10 0", 1);
    fails("people 9;coin 1 |9 0", 1);
    fails("people 2;coin 1 |2 0", 1);
    fails("people 2;coin 1 |000001 0", 1);
    fails("people 2;coin 1 1 |1000", 1);
    fails("people 2;coin 1 1 |000000", 1);
    stands("people 2;coin 00001 00001 00000", 1);
    fails("people 2;coin|", 0);
    fails("people 2;coin 1|", 0);
    fails("people 2;coin 1 1|", 0);
    fails("people 2;coin 1 1 |;coin 1 1 1", 0);
    fails("people 2;coin 1 1 1 |1", 0);

    CHECK.says("a ninth COIN (at its first byte)");
    String eight = "people 2" + ";coin 1 0 0".repeat(8);
    stands(eight, 8);
    fails(eight + ";|coin 1 0 0", 4);
    fails(eight + ";year 4;meet 1 0 1; |coin", 4);
    fails("people 2" + ";coin 1 0 0".repeat(7) + ";coin 1 0 |x", 0);
  }

  private static void meetings() {
    CHECK.says("meet NUMBER NUMBER NUMBER (a day 0 to 1999, two unlike PEOPLE)");
    OtherHands x = Check.in("people 10;meet 0 0 9;meet 1999 9 0");
    due("day", x.meeting(0, 0), 0);
    due("day", x.meeting(1, 0), 1999);
    due("who", x.meeting(0, 1) * 10 + x.meeting(0, 2), 9);
    due("who", x.meeting(1, 1) * 10 + x.meeting(1, 2), 90);
    fails("people 2;meet |2000 0 1", 1);
    fails("people 2;meet |001999 0 1", 1);
    fails("people 10;meet 1 |10 1", 1);
    fails("people 10;meet 1 1 |10", 1);
    fails("people 2;meet 1 |2 0", 1);
    fails("people 2;meet 1 0 |2", 1);
    fails("people 2;meet 1 0 |000001", 1);
    fails("people 2;meet 1 0 |0", 1);
    fails("people 10;meet 1 9 |9", 1);
    fails("people 10;meet 1 9 |00009", 1);
    fails("people 2;meet 1 |2 2", 1);
    fails("people 2;meet|", 0);
    fails("people 2;meet 1|", 0);
    fails("people 2;meet 1 0|", 0);
    fails("people 2;meet 1 0 1 |1", 0);

    CHECK.says("a 25th MEETING (at its first byte)");
    String most = "people 2" + ";meet 1 0 1".repeat(24);
    stands(most, 0);
    due("MEETINGS", Check.in(most).count(2), 24);
    fails(most + ";|meet 1 0 1", 4);
    fails(most + ";year 3; |meet 1", 4);
  }

  private static void faults() {
    CHECK.says("a byte or WORD that can't stand there, or the end (behind the last byte)");
    fails("|", 0);
    fails(" |", 0);
    fails("|\0", 0);
    fails("|peopl 2", 0);
    fails("|peoples 2", 0);
    fails("|peoplez 2", 0);
    fails("|zeople 2", 0);
    fails("people 2;|xear 9", 0);
    fails("people|{2", 0);
    fails("people|`2", 0);
    fails("people |/2", 0);
    fails("people |:2", 0);
    fails("|pay 1=1", 0);
    fails("people 2|, year 3", 0);
    fails("people 2;|", 0);
    fails("people 2;|;", 0);
    fails("people 2; |yearly 4", 0);
    fails("people 2 |year 4", 0);
    fails("people |x", 0);
    for (int b = 0; b < 256; b++) {
      char c = (char) b;
      if (c != ' ' && c != ';' && c != '|' && (c < '0' || c > '9')) {
        fails("people 2|" + c, 0);
      }
    }

    CHECK.says("blanks (32) stand between as one likes");
    stands("   people2;year9;coin1 0 0;meet0 0 1   ", 1);
    stands("people  2  ;  coin  1  0  0  ;year 9", 1);
    fails("|peo ple 2", 0);
    fails("people 2 |0", 0);
    fails("people|\t2", 0);
    fails("people|\n2", 0);
    fails("people 2|\u00a0", 0);

    CHECK.says("the first along the text");
    fails("people |1;year 0;x", 1);
    fails("people 2;coin |0 9 1000", 1);
    fails("people 2;coin 1 |9 1000", 1);
    fails("people 2;year 3;|year 0;people", 4);
    fails("people 2;|x;year 0", 0);

    CHECK.says("of one place the least");
    fails("|years 2", 0);
    fails("people 2;year 3;|yearx", 0);
    fails("people 2" + ";coin 1 0 0".repeat(8) + ";|coinx", 0);
    fails("people 2" + ";meet 1 0 1".repeat(24) + ";|meetx", 0);
    fails("people 2" + ";meet 1 0 1".repeat(24) + ";|", 0);
    fails("people 2 |123456", 0);
  }

  private static void town() {
    CHECK.says("4: the TAPE, which is empty then, is the TOWN in place of the one there was");
    OtherHands x = Check.busy();
    due("town", Check.town(x, "people 2;coin 1 1 999"), 1);
    int[] wants = {2, 1, 0, 0, 0, 2, 0, 365, 0, 77, 0, 0};
    for (int what = 0; what < wants.length; what++) {
      due("count(" + what + ")", x.count(what), wants[what]);
    }
    int[] coin = {1, 1, 999, 2, 0, 0, 0};
    for (int what = 0; what < coin.length; what++) {
      due("coin(0, " + what + ")", x.coin(0, what), coin[what]);
    }
    due("no second COIN", x.coin(1, 0), NONE);
    due("no MEETING", x.meeting(0, 0), NONE);
    due("no third of PEOPLE", x.person(2, 0), NONE);
    due("none told", x.met(0), 1);
    x = Check.in("people 2" + ";coin 1 0 0".repeat(8) + ";meet 1 0 1");
    for (int i = 0; i < 8; i++) {
      x.came(i, 1);
    }
    due("one set", x.met(0), 1);
    Check.town(x, "people 2;meet 1 0 1");
    due("none told, two sets", x.met(0), 2);
    x = Check.busy();
    Check.town(x, "people 2;coin 1 1 999");
    due("the image stays", x.back(1), 0);
    due("the image stays", x.count(0), 3);
    x = Check.busy();
    due("without COINS", Check.town(x, "people 2"), 0);
    due("no COIN", x.coin(0, 0), NONE);
    due("none LOST", x.lost(), 0);

    CHECK.says("4: -2 - its FAULT, and all stays");
    x = Check.busy();
    due("the five numbers on the TAPE", x.town(), Check.fault(0, 0));
    due("the TAPE", x.count(10), 0);
    due("of no bytes", x.town(), -3);
    OtherHands y = Check.busy();
    y.end(0);
    CHECK.same("all", Check.all(x), Check.all(y));
    due("the image", x.back(1), 0);
    due("the greatest fault there can be", Check.town(new OtherHands(), "people 2;" + blanks(391)), -2 - (1 + 8 * 400));
  }

  public static void main(String[] args) {
    feed();
    end();
    longest();
    people();
    year();
    coins();
    meetings();
    faults();
    town();
    CHECK.close();
  }
}
