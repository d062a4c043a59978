import java.util.ArrayList;
import java.util.Arrays;
import java.util.HashSet;
import java.util.List;
import java.util.Set;

/** The document told a second time, slowly and in other ways, to hold the program against. */
final class Model {
  private static final Set<String> WORDS =
      Set.of("coin", "worth", "age", "hands", "strange", "purse", "giver", "taker", "day");

  /** One piece of a text: its place and its signs; the end has none. */
  record Piece(int place, String signs) {
    boolean isNumber() {
      return !signs.isEmpty() && Character.isDigit(signs.charAt(0));
    }
  }

  record Meeting(int number, int day, int one, int other) {}

  /** A CLAUSE of a RULE: its word and the pieces of its TEST. */
  record Clause(String word, List<String> pieces) {}

  static final class Coin implements Cloneable {
    int worth;
    int who;
    int stamp;
    Set<Integer> hands = new HashSet<>();
    boolean isNew;
    int homes;
    int told = -1;

    Coin copy() {
      Coin c = new Coin();
      c.worth = worth;
      c.who = who;
      c.stamp = stamp;
      c.hands = new HashSet<>(hands);
      c.isNew = isNew;
      c.homes = homes;
      c.told = told;
      return c;
    }
  }

  static final class State {
    int people;
    int year;
    List<Coin> coins = new ArrayList<>();
    List<Meeting> meetings = new ArrayList<>();
    int day;
    int homecomings;
    int force = -1;
    long x;

    State copy() {
      State s = new State();
      s.people = people;
      s.year = year;
      for (Coin c : coins) {
        s.coins.add(c.copy());
      }
      s.meetings = new ArrayList<>(meetings);
      s.day = day;
      s.homecomings = homecomings;
      s.force = force;
      s.x = x;
      return s;
    }

    boolean isVoid(Coin c) {
      return day > c.stamp + year;
    }

    int purse(int who) {
      return (int) coins.stream().filter(c -> c.who == who).count();
    }
  }

  private final List<Integer> tape = new ArrayList<>();
  private final List<List<Clause>> rules = new ArrayList<>();
  private State s = new State();
  private final State[] images = new State[4];

  // ---- texts

  private String text() {
    StringBuilder sb = new StringBuilder();
    for (int b : tape) {
      sb.append((char) b);
    }
    return sb.toString();
  }

  private static List<Piece> pieces(String text) {
    List<Piece> list = new ArrayList<>();
    java.util.regex.Matcher m =
        java.util.regex.Pattern.compile("[a-z]+|[0-9]+|<=|>=|[^ ]", java.util.regex.Pattern.DOTALL).matcher(text);
    while (m.find()) {
      list.add(new Piece(m.start(), m.group()));
    }
    list.add(new Piece(text.length(), ""));
    return list;
  }

  /** All faults of a TOWN, of which the least counts, or the TOWN itself in the state. */
  private static int townFault(String text, State made) {
    List<Piece> ps = pieces(text);
    int at = 0;
    made.year = 365;
    boolean year = false;
    for (int clause = 0; ; clause++) {
      Piece word = ps.get(at);
      int most = switch (word.signs) {
        case "people", "year" -> 1;
        case "coin", "meet" -> 3;
        default -> 0;
      };
      if (most == 0) {
        return 1 + 8 * word.place;
      }
      boolean first = word.signs.equals("people");
      if (first && clause > 0 || !first && clause == 0 || clause == 40 || word.signs.equals("year") && year
          || word.signs.equals("coin") && made.coins.size() == 8
          || word.signs.equals("meet") && made.meetings.size() == 24) {
        return 1 + 8 * word.place + 4;
      }
      year |= word.signs.equals("year");
      int[] n = new int[3];
      for (int i = 0; i < most; i++) {
        Piece p = ps.get(++at);
        if (!p.isNumber()) {
          return 1 + 8 * p.place;
        }
        n[i] = p.signs.length() > 5 ? 100000 : Integer.parseInt(p.signs);
        if (!fits(word.signs, i, n, made.people)) {
          return 1 + 8 * p.place + 1;
        }
      }
      take(word.signs, n, made);
      Piece then = ps.get(++at);
      if (then.signs.isEmpty()) {
        return 0;
      }
      if (!then.signs.equals(";")) {
        return 1 + 8 * then.place;
      }
      at++;
    }
  }

  private static boolean fits(String word, int i, int[] n, int people) {
    return switch (word + i) {
      case "people0" -> n[0] >= 2 && n[0] <= 10;
      case "year0" -> n[0] >= 1 && n[0] <= 999;
      case "coin0" -> n[0] >= 1 && n[0] <= 99;
      case "coin1", "meet1" -> n[1] < people;
      case "coin2" -> n[2] <= 999;
      case "meet0" -> n[0] <= 1999;
      default -> n[2] < people && n[2] != n[1];
    };
  }

  private static void take(String word, int[] n, State made) {
    switch (word) {
      case "people" -> made.people = n[0];
      case "year" -> made.year = n[0];
      case "coin" -> {
        Coin c = new Coin();
        c.worth = n[0];
        c.who = n[1];
        c.stamp = n[2];
        c.hands.add(n[1]);
        made.coins.add(c);
      }
      default -> made.meetings.add(new Meeting(made.meetings.size(), n[0], n[1], n[2]));
    }
  }

  /** Goes along a RULE by what may come next, without a tree: f FACT, v VALUE, a ahead of a SIGN, b behind, c behind ]. */
  private static int ruleFault(String text, List<Clause> made) {
    char next = 'k';
    int parts = 0;
    boolean signSeen = false;
    StringBuilder open = new StringBuilder();
    for (Piece p : pieces(text)) {
      String g = p.signs;
      int fault = 1 + 8 * p.place;
      if (next == 'k') {
        if (!g.equals("pay") && !g.equals("bar") && !g.equals("home")) {
          return fault;
        }
        if (made.size() == 12) {
          return fault + 4;
        }
        made.add(new Clause(g, new ArrayList<>()));
        next = 'f';
        continue;
      }
      if (!g.equals(";") && !g.isEmpty()) {
        made.get(made.size() - 1).pieces.add(g);
      }
      if (next == 'f' && (g.equals("not") || g.equals("["))) {
        if (open.length() == 10) {
          return fault + 2;
        }
        open.append(g.charAt(0));
        continue;
      }
      if (next == 'f' || next == 'v') {
        if (p.isNumber() && g.length() > 5) {
          return fault + 1;
        }
        if (!p.isNumber() && !WORDS.contains(g)) {
          return fault;
        }
        if (++parts > 60) {
          return fault + 3;
        }
        if (next == 'f') {
          signSeen = false;
        }
        next = signSeen ? 'b' : 'a';
        continue;
      }
      if ((next == 'a' || next == 'b') && g.length() == 1 && "+-*/".contains(g)) {
        next = 'v';
        continue;
      }
      if (next == 'a') {
        if (!Set.of("<", "<=", "=", ">=", ">").contains(g)) {
          return fault;
        }
        if (++parts > 60) {
          return fault + 3;
        }
        signSeen = true;
        next = 'v';
        continue;
      }
      // A FACT has ended, and all nots right ahead of it.
      while (open.length() > 0 && open.charAt(open.length() - 1) == 'n') {
        open.setLength(open.length() - 1);
      }
      if (g.equals("and") || g.equals("or")) {
        next = 'f';
      } else if (g.equals("]") && open.length() > 0) {
        open.setLength(open.length() - 1);
        next = 'c';
      } else if (g.equals(";") && open.length() == 0) {
        next = 'k';
      } else if (g.isEmpty() && open.length() == 0) {
        return 0;
      } else {
        return fault;
      }
    }
    return -1;
  }

  // ---- TESTS

  /** What a TEST is asked about. */
  record Question(int coin, int worth, int age, int hands, boolean strange, int purse, int giver, int taker, int day) {
    long word(String w) {
      return switch (w) {
        case "coin" -> coin;
        case "worth" -> worth;
        case "age" -> age;
        case "hands" -> hands;
        case "strange" -> strange ? 1 : 0;
        case "purse" -> purse;
        case "giver" -> giver;
        case "taker" -> taker;
        case "day" -> day;
        default -> Long.parseLong(w);
      };
    }
  }

  /** Splits a list at the outermost of a word, the last of them first where it says so. */
  private static int lastOutside(List<String> ps, Set<String> which) {
    int deep = 0;
    for (int i = ps.size() - 1; i >= 0; i--) {
      String p = ps.get(i);
      deep += p.equals("]") ? 1 : p.equals("[") ? -1 : 0;
      if (deep == 0 && which.contains(p)) {
        return i;
      }
    }
    return -1;
  }

  private static boolean holds(List<String> ps, Question q) {
    for (String word : List.of("or", "and")) {
      int at = lastOutside(ps, Set.of(word));
      if (at >= 0) {
        boolean left = holds(ps.subList(0, at), q);
        boolean right = holds(ps.subList(at + 1, ps.size()), q);
        return word.equals("or") ? left || right : left && right;
      }
    }
    if (ps.get(0).equals("not")) {
      return !holds(ps.subList(1, ps.size()), q);
    }
    if (ps.get(0).equals("[")) {
      return holds(ps.subList(1, ps.size() - 1), q);
    }
    int at = lastOutside(ps, Set.of("<", "<=", "=", ">=", ">"));
    int way = Long.compare(sum(ps.subList(0, at), q), sum(ps.subList(at + 1, ps.size()), q));
    return switch (ps.get(at)) {
      case "<" -> way < 0;
      case "<=" -> way <= 0;
      case "=" -> way == 0;
      case ">=" -> way >= 0;
      default -> way > 0;
    };
  }

  private static long sum(List<String> ps, Question q) {
    for (Set<String> signs : List.of(Set.of("+", "-"), Set.of("*", "/"))) {
      int at = lastOutside(ps, signs);
      if (at >= 0) {
        long a = sum(ps.subList(0, at), q);
        long b = sum(ps.subList(at + 1, ps.size()), q);
        return switch (ps.get(at)) {
          case "+" -> a + b;
          case "-" -> a - b;
          case "*" -> a * b;
          default -> b == 0 ? 0 : a / b;
        };
      }
    }
    return q.word(ps.get(0));
  }

  private static boolean some(List<Clause> rule, String word, Question q) {
    return rule != null && rule.stream().anyMatch(c -> c.word.equals(word) && holds(c.pieces, q));
  }

  private static Question toPay(State st, int coin, int to) {
    Coin c = st.coins.get(coin);
    return new Question(coin, c.worth, st.day - c.stamp, c.hands.size(), !c.hands.contains(to), st.purse(c.who), c.who, to, st.day);
  }

  private static Question toHome(State st, int coin) {
    Coin c = st.coins.get(coin);
    return new Question(coin, c.worth, st.day - c.stamp, c.hands.size(), c.isNew, st.purse(c.who), c.who, c.who, st.day);
  }

  // ---- LAWS and DAYS

  private static void goTo(Coin c, int to) {
    c.isNew = c.hands.add(to);
    c.who = to;
  }

  private static void bring(State st, Coin c) {
    c.stamp = st.day;
    c.hands = new HashSet<>(Set.of(c.who));
    c.isNew = false;
    c.homes++;
    st.homecomings++;
  }

  private static int oneDay(State st, List<Clause> rule, List<Meeting> more) {
    int paid = 0;
    List<Meeting> today = new ArrayList<>();
    for (Meeting m : st.meetings) {
      if (m.day == st.day) {
        today.add(m);
      }
    }
    today.addAll(more);
    for (Meeting m : today) {
      List<int[]> plan = new ArrayList<>();
      for (int side = 0; side < 2; side++) {
        for (int i = 0; i < st.coins.size(); i++) {
          if (st.coins.get(i).who == (side == 0 ? m.one : m.other)) {
            plan.add(new int[] {i, side == 0 ? m.other : m.one});
          }
        }
      }
      for (int[] step : plan) {
        Question q = toPay(st, step[0], step[1]);
        Coin c = st.coins.get(step[0]);
        if (!st.isVoid(c) && !some(rule, "bar", q) && some(rule, "pay", q)) {
          goTo(c, step[1]);
          paid++;
        }
      }
    }
    for (int i = 0; i < st.coins.size(); i++) {
      Coin c = st.coins.get(i);
      Question q = toHome(st, i);
      if (!st.isVoid(c) && c.isNew && !some(rule, "bar", q) && some(rule, "home", q)) {
        bring(st, c);
      }
    }
    st.day = st.day == 19999 ? 19999 : st.day + 1;
    return paid;
  }

  // ---- ways, each walked to its end

  /** What came of all ways of a COIN. */
  private static final class Ways {
    int soonest = Integer.MAX_VALUE;
    int fewest = Integer.MAX_VALUE;
    Set<Integer> reached = new HashSet<>();
    /** How often was walked from a MEETING on with a holder and so few payments. */
    int[][] best = new int[25][10];
  }

  private Ways ways(Coin c, int number, int day, Set<Integer> without) {
    Ways w = new Ways();
    if (day > c.stamp + s.year) {
      return w;
    }
    for (int[] row : w.best) {
      Arrays.fill(row, Integer.MAX_VALUE);
    }
    List<Meeting> sorted = new ArrayList<>();
    for (Meeting m : s.meetings) {
      if (m.day >= day && m.day <= c.stamp + s.year && !without.contains(m.number)) {
        sorted.add(m);
      }
    }
    sorted.sort((a, b) -> Integer.compare(a.day, b.day));
    if (c.isNew && mayHome(c, number, c.who, c.hands.size(), day)) {
      w.soonest = day;
      w.fewest = 0;
      return w;
    }
    walk(w, c, number, sorted, 0, c.who, 0);
    return w;
  }

  private List<Clause> bars() {
    return s.force < 0 ? null : rules.get(s.force);
  }

  private boolean mayHome(Coin c, int number, int who, int hands, int day) {
    return !some(bars(), "bar", new Question(number, c.worth, day - c.stamp, hands, true, s.purse(who), who, who, day));
  }

  private void walk(Ways w, Coin c, int number, List<Meeting> ms, int from, int who, int paid) {
    w.reached.add(who);
    if (w.best[from][who] <= paid) {
      return;
    }
    w.best[from][who] = paid;
    for (int i = from; i < ms.size(); i++) {
      Meeting m = ms.get(i);
      if (m.one != who && m.other != who) {
        continue;
      }
      int to = m.one == who ? m.other : m.one;
      boolean strange = !c.hands.contains(to);
      Question q = new Question(number, c.worth, m.day - c.stamp, c.hands.size(), strange, s.purse(who), who, to, m.day);
      if (some(bars(), "bar", q)) {
        continue;
      }
      if (!strange) {
        walk(w, c, number, ms, i + 1, to, paid + 1);
      } else if (mayHome(c, number, to, c.hands.size() + 1, m.day)) {
        w.soonest = Math.min(w.soonest, m.day);
        w.fewest = Math.min(w.fewest, paid + 1);
      }
    }
  }

  private Ways ways(int coin, Set<Integer> without) {
    return ways(s.coins.get(coin), coin, s.day, without);
  }

  private boolean isLost(int coin, Set<Integer> without) {
    return !s.isVoid(s.coins.get(coin)) && ways(coin, without).soonest == Integer.MAX_VALUE;
  }

  // ---- the face

  private boolean hasCoin(int coin) {
    return coin >= 0 && coin < s.coins.size();
  }

  private boolean hasPerson(int person) {
    return person >= 0 && person < s.people;
  }

  private boolean hasRule(int rule) {
    return rule >= 0 && rule < rules.size();
  }

  private static int bits(Set<Integer> set) {
    return set.stream().mapToInt(i -> 1 << i).sum();
  }

  int feed(int... five) {
    if (tape.size() > 380) {
      return -1;
    }
    for (int n : five) {
      for (byte b : java.nio.ByteBuffer.allocate(4).putInt(n).array()) {
        tape.add(b & 255);
      }
    }
    return tape.size();
  }

  int end(int n) {
    if (n < 0 || n > tape.size()) {
      return -1;
    }
    while (tape.size() > n) {
      tape.remove(tape.size() - 1);
    }
    return n;
  }

  int town() {
    State made = new State();
    int fault = townFault(text(), made);
    tape.clear();
    if (fault != 0) {
      return -2 - fault;
    }
    made.force = s.force;
    made.x = s.x;
    s = made;
    return s.coins.size();
  }

  int rule() {
    if (rules.size() == 6) {
      return -1;
    }
    List<Clause> made = new ArrayList<>();
    int fault = ruleFault(text(), made);
    tape.clear();
    if (fault != 0) {
      return -2 - fault;
    }
    rules.add(made);
    return rules.size() - 1;
  }

  int force(int rule) {
    if (rule != -1 && !hasRule(rule)) {
      return -2;
    }
    int was = s.force;
    s.force = rule;
    return was;
  }

  int coin(int coin, int what) {
    if (!hasCoin(coin) || what < 0 || what > 6) {
      return -1;
    }
    Coin c = s.coins.get(coin);
    return new int[] {c.worth, c.who, c.stamp, bits(c.hands), c.isNew ? 1 : 0, s.isVoid(c) ? 1 : 0, c.homes}[what];
  }

  int meeting(int meeting, int what) {
    if (meeting < 0 || meeting >= s.meetings.size() || what < 0 || what > 2) {
      return -1;
    }
    Meeting m = s.meetings.get(meeting);
    return new int[] {m.day, m.one, m.other}[what];
  }

  private Set<Integer> meets(int person) {
    Set<Integer> set = new HashSet<>();
    for (Meeting m : s.meetings) {
      if (m.day == s.day && (m.one == person || m.other == person)) {
        set.add(m.one + m.other - person);
      }
    }
    return set;
  }

  int person(int person, int what) {
    if (!hasPerson(person) || what < 0 || what > 2) {
      return -1;
    }
    int coins = 0;
    int worth = 0;
    for (int i = 0; i < s.coins.size(); i++) {
      Coin c = s.coins.get(i);
      if (c.who == person) {
        coins += 1 << i;
        worth += s.isVoid(c) ? 0 : c.worth;
      }
    }
    return new int[] {coins, worth, bits(meets(person))}[what];
  }

  int pay(int coin, int to) {
    if (!hasCoin(coin) || !hasPerson(to) || s.coins.get(coin).who == to) {
      return -1;
    }
    Coin c = s.coins.get(coin);
    if (s.isVoid(c)) {
      return -3;
    }
    if (!meets(c.who).contains(to)) {
      return -4;
    }
    if (some(bars(), "bar", toPay(s, coin, to))) {
      return -5;
    }
    goTo(c, to);
    return 0;
  }

  int home(int coin) {
    if (!hasCoin(coin)) {
      return -1;
    }
    Coin c = s.coins.get(coin);
    if (s.isVoid(c)) {
      return -3;
    }
    if (!c.isNew) {
      return -4;
    }
    if (some(bars(), "bar", toHome(s, coin))) {
      return -5;
    }
    bring(s, c);
    return c.homes;
  }

  int rest(int n) {
    if (s.people == 0 || n < 1 || n > 999 || s.day + n > 19999) {
      return -1;
    }
    return s.day += n;
  }

  int run(int rule, int n) {
    if (s.people == 0 || !hasRule(rule) || n < 1 || n > 400 || s.day + n > 19999) {
      return -1;
    }
    for (int i = 0; i < n; i++) {
      oneDay(s, rules.get(rule), List.of());
    }
    return s.day;
  }

  int ahead(int rule, int n, int what) {
    if (s.people == 0 || !hasRule(rule) || n < 0 || n > 400 || what < 0 || what > 2) {
      return -1;
    }
    State t = s.copy();
    int paid = 0;
    for (int i = 0; i < n; i++) {
      paid += oneDay(t, rules.get(rule), List.of());
    }
    return new int[] {t.homecomings - s.homecomings, voids(t), paid}[what];
  }

  private static int voids(State t) {
    int sum = 0;
    for (int i = 0; i < t.coins.size(); i++) {
      sum += t.isVoid(t.coins.get(i)) ? 1 << i : 0;
    }
    return sum;
  }

  int soonest(int coin) {
    if (!hasCoin(coin)) {
      return -1;
    }
    int day = ways(coin, Set.of()).soonest;
    return day == Integer.MAX_VALUE ? -2 : day;
  }

  int fewest(int coin) {
    if (!hasCoin(coin)) {
      return -1;
    }
    int n = ways(coin, Set.of()).fewest;
    return n == Integer.MAX_VALUE ? -2 : n;
  }

  int lost() {
    if (s.people == 0) {
      return -1;
    }
    int sum = 0;
    for (int i = 0; i < s.coins.size(); i++) {
      sum += isLost(i, Set.of()) ? 1 << i : 0;
    }
    return sum;
  }

  int strangers() {
    if (s.people == 0) {
      return -1;
    }
    List<Integer> masks = new ArrayList<>();
    for (int i = 0; i < s.coins.size(); i++) {
      if (isLost(i, Set.of())) {
        masks.add(bits(ways(i, Set.of()).reached));
      }
    }
    for (int size = 0; size <= s.people; size++) {
      for (int set = 0; set < 1 << s.people; set++) {
        int those = set;
        if (Integer.bitCount(set) == size && masks.stream().allMatch(m -> (m & those) != 0)) {
          return set;
        }
      }
    }
    return -9;
  }

  int dear(int meeting) {
    if (meeting < 0 || meeting >= s.meetings.size()) {
      return -1;
    }
    int sum = 0;
    for (int i = 0; i < s.coins.size(); i++) {
      int worth = s.coins.get(i).worth;
      sum += isLost(i, Set.of(meeting)) ? worth : 0;
      sum -= isLost(i, Set.of()) ? worth : 0;
    }
    return sum;
  }

  int rings(int n, int person) {
    if (!hasPerson(person) || n < 3 || n > 6) {
      return -1;
    }
    Set<Integer> pairs = new HashSet<>();
    for (Meeting m : s.meetings) {
      pairs.add(m.one * 10 + m.other);
      pairs.add(m.other * 10 + m.one);
    }
    Set<List<Integer>> found = new HashSet<>();
    gather(found, new ArrayList<>(List.of(person)), n, pairs);
    return found.size();
  }

  private void gather(Set<List<Integer>> found, List<Integer> path, int n, Set<Integer> pairs) {
    int last = path.get(path.size() - 1);
    if (path.size() == n) {
      if (pairs.contains(last * 10 + path.get(0))) {
        // Of the two ways round the one whose second is less than its last.
        List<Integer> round = new ArrayList<>(path);
        if (path.get(1) > last) {
          java.util.Collections.reverse(round.subList(1, n));
        }
        found.add(round);
      }
      return;
    }
    for (int next = 0; next < s.people; next++) {
      if (!path.contains(next) && pairs.contains(last * 10 + next)) {
        path.add(next);
        gather(found, path, n, pairs);
        path.remove(path.size() - 1);
      }
    }
  }

  int never(int person, int n) {
    if (!hasPerson(person) || n < 1 || n > 400) {
      return -1;
    }
    for (int day = s.day; day < s.day + n; day++) {
      Coin c = new Coin();
      c.worth = 1;
      c.who = person;
      c.stamp = day;
      c.hands.add(person);
      if (ways(c, s.coins.size(), day, Set.of()).soonest == Integer.MAX_VALUE) {
        return day;
      }
    }
    return -2;
  }

  boolean came(int coin, int how) {
    if (!hasCoin(coin) || how < -1 || how > 1) {
      return false;
    }
    s.coins.get(coin).told = how;
    return true;
  }

  int met(int what) {
    if (s.people == 0 || what < 0 || what > 2) {
      return -1;
    }
    int k = Math.min(8, s.meetings.size());
    List<Integer> sets = new ArrayList<>();
    for (int set = 0; set < 1 << k; set++) {
      Set<Integer> without = new HashSet<>();
      for (int i = 0; i < k; i++) {
        if ((set >> i & 1) == 0) {
          without.add(i);
        }
      }
      boolean fits = true;
      for (int i = 0; i < s.coins.size() && fits; i++) {
        int told = s.coins.get(i).told;
        fits = told == -1 || (told == 1) == (ways(i, without).soonest != Integer.MAX_VALUE);
      }
      if (fits) {
        sets.add(set);
      }
    }
    if (what == 0 || sets.isEmpty()) {
      return what == 0 ? sets.size() : 0;
    }
    int sum = 0;
    for (int i = 0; i < k; i++) {
      int bit = 1 << i;
      boolean in = what == 1 ? sets.stream().allMatch(z -> (z & bit) != 0) : sets.stream().noneMatch(z -> (z & bit) != 0);
      sum += in ? bit : 0;
    }
    return sum;
  }

  int seed(int x) {
    if (x < 0) {
      return -1;
    }
    int was = (int) s.x;
    s.x = x;
    return was;
  }

  int years(int rule, int m, int n, int what) {
    if (s.people == 0 || !hasRule(rule) || m < 1 || m > 10 || n < 1 || n > 400 || what < 0 || what > 1) {
      return -1;
    }
    long x = s.x;
    int sum = 0;
    for (int time = 0; time < m; time++) {
      State t = s.copy();
      for (int i = 0; i < n; i++) {
        int[] two = new int[2];
        for (int k = 0; k < 2; k++) {
          x = (x * 1103515245L + 12345L) % 2147483648L;
          two[k] = (int) (x / 65536 % t.people);
        }
        oneDay(t, rules.get(rule), two[0] == two[1] ? List.of() : List.of(new Meeting(99, t.day, two[0], two[1])));
      }
      sum += what == 0 ? t.homecomings - s.homecomings : Integer.bitCount(voids(t));
    }
    return sum;
  }

  int count(int what) {
    return switch (what) {
      case 0 -> s.people;
      case 1 -> s.coins.size();
      case 2 -> s.meetings.size();
      case 3 -> s.day;
      case 4 -> s.homecomings;
      case 5 -> rules.size();
      case 6 -> s.force;
      case 7 -> s.year;
      case 8 -> (int) s.coins.stream().filter(c -> c.told >= 0).count();
      case 9 -> (int) s.x;
      case 10 -> tape.size();
      case 11 -> Integer.bitCount(voids(s));
      default -> -1;
    };
  }

  int image(int k) {
    if (k < 0 || k > 3) {
      return -1;
    }
    images[k] = s.copy();
    return s.day;
  }

  int back(int k) {
    if (k < 0 || k > 3 || images[k] == null) {
      return -1;
    }
    s = images[k].copy();
    return s.day;
  }
}
