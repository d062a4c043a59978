import java.util.ArrayList;
import java.util.List;
import java.util.Random;

/** Runs of random calls, each asked of the program and of the model. */
public final class ModelTest {
  private static final Check CHECK = new Check();
  private static final int RUNS = 600;
  private static final int CALLS = 512;
  private static final String[] WORDS =
      {"coin", "worth", "age", "hands", "strange", "purse", "giver", "taker", "day"};
  private static final String OTHERS = " ;[]<=>+-*/0123456789abcpeol\0\u00e9";
  private static final int[] FARTHEST =
      {Integer.MIN_VALUE, Integer.MIN_VALUE + 1, Integer.MAX_VALUE, Integer.MAX_VALUE - 1, 1 << 16, 400, 999, 1000};
  private static final String[] SIGNS = {"<", "<=", "=", ">=", ">"};

  private final Random random;
  private final OtherHands x = new OtherHands();
  private final Model model = new Model();
  private final List<String> told = new ArrayList<>();
  private int calls;
  private boolean wrong;

  private ModelTest(long seed) {
    random = new Random(seed);
  }

  private int below(int n) {
    return random.nextInt(n);
  }

  /** Mostly one of 0 to n - 1, at times one beside. */
  private int about(int n) {
    if (below(100) == 0) {
      return FARTHEST[below(FARTHEST.length)];
    }
    return below(12) == 0 ? below(n + 6) - 3 : below(Math.max(n, 1));
  }

  private String town() {
    int people = 2 + below(below(3) == 0 ? 9 : 4);
    int span = new int[] {2, 4, 6, 10, 30, 400, 1990}[below(7)];
    List<String> clauses = new ArrayList<>();
    if (below(4) != 0) {
      clauses.add("year " + (1 + below(below(3) == 0 ? 12 : 500)));
    }
    for (int i = below(9); i > 0; i--) {
      clauses.add("coin " + (1 + below(99)) + " " + below(people) + " " + below(Math.min(1000, below(2) == 0 ? 1 : span)));
    }
    for (int i = below(below(6) == 0 ? 25 : 13); i > 0; i--) {
      int one = below(people);
      clauses.add("meet " + below(span) + " " + one + " " + (one + 1 + below(people - 1)) % people);
    }
    java.util.Collections.shuffle(clauses, random);
    clauses.add(0, "people " + people);
    String text = String.join(";", clauses);
    return spoilt(text.length() > 400 ? "people 3;coin 5 0 0;meet 2 0 1" : text);
  }

  private String rule() {
    StringBuilder sb = new StringBuilder();
    for (int i = 1 + below(below(20) == 0 ? 13 : 4); i > 0; i--) {
      sb.append(new String[] {"pay ", "bar ", "home "}[below(3)]);
      sb.append(below(4) == 0 ? "1=1" : test(below(8) == 0 ? 11 : 2));
      sb.append(i > 1 ? ";" : "");
    }
    String text = sb.toString();
    return spoilt(text.length() > 400 ? text.substring(0, 400) : text);
  }

  private String test(int deep) {
    StringBuilder sb = new StringBuilder(fact(deep));
    while (below(3) == 0) {
      sb.append(below(2) == 0 ? " or " : " and ").append(fact(deep));
    }
    return sb.toString();
  }

  private String fact(int deep) {
    int kind = deep > 0 ? below(deep > 3 ? 2 : 5) : 4;
    if (kind == 0) {
      return "not " + fact(deep - 1);
    }
    if (kind == 1) {
      return "[" + test(deep - 1) + "]";
    }
    return sum() + SIGNS[below(5)] + sum();
  }

  private String sum() {
    StringBuilder sb = new StringBuilder(value());
    while (below(3) == 0) {
      sb.append("+-*/".charAt(below(4))).append(value());
    }
    return sb.toString();
  }

  private String value() {
    if (below(2) == 0) {
      return WORDS[below(9)];
    }
    return String.valueOf(below(12) == 0 ? below(100000) : below(5));
  }

  /** At times with another sign somewhere, or one less, or more blanks. */
  private String spoilt(String text) {
    StringBuilder sb = new StringBuilder(text);
    if (below(5) == 0) {
      for (int i = 1 + below(2); i > 0 && sb.length() > 0; i--) {
        int at = below(sb.length());
        switch (below(3)) {
          case 0 -> sb.setCharAt(at, OTHERS.charAt(below(OTHERS.length())));
          case 1 -> sb.deleteCharAt(at);
          default -> sb.insert(at, OTHERS.charAt(below(OTHERS.length())));
        }
      }
    }
    for (int i = below(4); i > 0 && sb.length() < 400; i--) {
      int at = below(sb.length() + 1);
      boolean apart = at == 0 || at == sb.length() || !Character.isLetterOrDigit(sb.charAt(at));
      if (apart) {
        sb.insert(at, ' ');
      }
    }
    return sb.length() > 400 ? sb.substring(0, 400) : sb.toString();
  }

  private void due(String call, long got, long want) {
    calls++;
    told.add(call + " -> " + got);
    CHECK.due(call, got, want);
    if (got != want && !wrong) {
      wrong = true;
      System.out.println("the run:\n" + String.join("\n", told));
    }
  }

  private void put(String text) {
    due("end(0)", x.end(0), model.end(0));
    for (int[] f : Check.fives(text)) {
      due("feed", x.feed(f[0], f[1], f[2], f[3], f[4]), model.feed(f));
    }
    due("end(" + text.length() + ") \"" + text + "\"", x.end(text.length()), model.end(text.length()));
  }

  private void call() {
    int coin = about(x.count(1));
    int person = about(x.count(0));
    int meeting = about(x.count(2));
    int rule = about(x.count(5));
    int days = below(10) == 0 ? about(402) : 1 + below(12);
    int what = about(3);
    if (below(3) == 0) {
      lively(below(Math.max(1, x.count(1))));
      return;
    }
    switch (below(35)) {
      case 0 -> due("coin(" + coin + "," + what + ")", x.coin(coin, what), model.coin(coin, what));
      case 1 -> due("meeting(" + meeting + "," + what + ")", x.meeting(meeting, what), model.meeting(meeting, what));
      case 2 -> due("person(" + person + "," + what + ")", x.person(person, what), model.person(person, what));
      case 3, 4, 5, 6, 7 -> due("pay(" + coin + "," + person + ")", x.pay(coin, person), model.pay(coin, person));
      case 8, 9 -> due("home(" + coin + ")", x.home(coin), model.home(coin));
      case 10 -> due("rest(" + days % 3 + ")", x.rest(days % 3), model.rest(days % 3));
      case 33 -> due("rest(" + days + ")", x.rest(days), model.rest(days));
      case 11 -> due("run(" + rule + "," + days + ")", x.run(rule, days), model.run(rule, days));
      case 12 -> due("ahead(" + rule + "," + days + "," + what + ")", x.ahead(rule, days, what), model.ahead(rule, days, what));
      case 13, 14 -> due("soonest(" + coin + ")", x.soonest(coin), model.soonest(coin));
      case 15, 16 -> due("fewest(" + coin + ")", x.fewest(coin), model.fewest(coin));
      case 17 -> due("lost()", x.lost(), model.lost());
      case 18 -> due("strangers()", x.strangers(), model.strangers());
      case 19, 20 -> due("dear(" + meeting + ")", x.dear(meeting), model.dear(meeting));
      case 21 -> {
        int n = 3 + about(4);
        due("rings(" + n + "," + person + ")", x.rings(n, person), model.rings(n, person));
      }
      case 22 -> due("never(" + person + "," + days + ")", x.never(person, days), model.never(person, days));
      case 23, 24 -> {
        int how = about(3) - 1;
        due("came(" + coin + "," + how + ")", x.came(coin, how) ? 1 : 0, model.came(coin, how) ? 1 : 0);
      }
      case 25 -> due("met(" + what + ")", x.met(what), model.met(what));
      case 26 -> {
        int seed = random.nextInt();
        due("seed(" + seed + ")", x.seed(seed), model.seed(seed));
      }
      case 27 -> {
        int m = 1 + about(3);
        int which = about(2);
        due("years(" + rule + "," + m + "," + days + "," + which + ")", x.years(rule, m, days, which), model.years(rule, m, days, which));
      }
      case 28 -> due("end(" + days + ")", x.end(days), model.end(days));
      case 29 -> due("image", x.image(what), model.image(what));
      case 30 -> due("back", x.back(what), model.back(what));
      case 31, 32 -> due("force(" + rule + ")", x.force(rule), model.force(rule));
      default -> state();
    }
  }

  /** Pays where there is a MEETING, or goes on to the next day that has one. */
  private void lively(int coin) {
    int to = below(10);
    int met = x.person(x.coin(coin, 1), 2);
    for (int i = 0; i < 10 && met > 0 && (met >> to & 1) == 0; i++) {
      to = (to + 1) % 10;
    }
    if (met > 0 && below(8) != 0) {
      due("pay(" + coin + "," + to + ")", x.pay(coin, to), model.pay(coin, to));
      due("fewest(" + coin + ")", x.fewest(coin), model.fewest(coin));
      return;
    }
    int rest = 1000;
    for (int m = 0; m < x.count(2); m++) {
      int ahead = x.meeting(m, 0) - x.count(3);
      rest = ahead > 0 && ahead < rest ? ahead : rest;
    }
    if (rest == 1000 && below(12) == 0) {
      due("back", x.back(met & 3), model.back(met & 3));
      texts(true);
    } else if (rest < 1000 && below(6) == 0) {
      due("rest(" + rest + ")", x.rest(rest), model.rest(rest));
    }
  }

  private void state() {
    int what = below(14) - 1;
    due("count(" + what + ")", x.count(what), model.count(what));
    int coin = about(x.count(1));
    for (int i = 1; i < 7; i++) {
      due("coin(" + coin + "," + i + ")", x.coin(coin, i), model.coin(coin, i));
    }
  }

  private void texts(boolean town) {
    if (town) {
      put(town());
      due("town()", x.town(), model.town());
    } else {
      put(rule());
      due("rule()", x.rule(), model.rule());
    }
    due("count(10)", x.count(10), model.count(10));
  }

  private void run() {
    if (below(4) == 0) {
      // Near the last of all days.
      put("people 3;year 999;coin 5 0 0;coin 6 1 0");
      due("town()", x.town(), model.town());
      int rests = 19 + below(2);
      for (int i = 0; i < rests; i++) {
        due("rest(999)", x.rest(999), model.rest(999));
      }
      int more = below(400) + (rests == 19 ? 800 : 1);
      due("rest(" + more + ")", x.rest(more), model.rest(more));
    }
    for (int step = 0; step < 4 * CALLS && calls < CALLS - 60 && !wrong; step++) {
      if (below(x.count(2) > 0 ? 60 : 10) == 0 || x.count(0) == 0 || x.count(5) < 2) {
        texts(below(2) == 0);
      } else {
        call();
      }
    }
    for (int what = -1; what < 13; what++) {
      due("count(" + what + ")", x.count(what), model.count(what));
    }
  }

  public static void main(String[] args) {
    int runs = args.length > 0 ? Integer.parseInt(args[0]) : RUNS;
    long first = args.length > 1 ? Long.parseLong(args[1]) : 1;
    for (int i = 0; i < runs; i++) {
      new ModelTest(first + i).run();
    }
    CHECK.close();
  }
}
