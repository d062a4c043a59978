import java.util.Arrays;

/** A town of people, coins and meetings, in which a coin must come home by another hand. */
public final class OtherHands {
  public static final int NONE = -1;

  private static final int CANT = -2;
  private static final int TAPE_MOST = 400;
  private static final int PEOPLE_MOST = 10;
  private static final int COINS_MOST = 8;
  private static final int MEETINGS_MOST = 24;
  private static final int RULES_MOST = 6;
  private static final int IMAGES = 4;
  private static final int DAYS_MOST = 400;
  private static final int REST_MOST = 999;
  private static final int YEARS_MOST = 10;
  private static final int LAST_DAY = 19999;
  private static final int DOUBTED_MOST = 8;
  private static final int RING_LEAST = 3;
  private static final int RING_MOST = 6;

  private final Text tape;
  private final TownReader townReader;
  private final RuleReader ruleReader;
  private final Rule[] rules;
  private int ruleCount;
  private final State now;
  private final State trial;
  private final State[] images;
  private final Coin spare;
  private final Asked asked;
  private final Days days;
  private final Ways ways;
  private final boolean[] possible;
  private final int[] reaches;
  private final int[] friends;

  public OtherHands() {
    Plan nothing = new Plan();
    tape = new Text();
    townReader = new TownReader(tape);
    ruleReader = new RuleReader(tape);
    rules = new Rule[RULES_MOST];
    ruleCount = 0;
    now = new State(nothing);
    trial = new State(nothing);
    images = new State[IMAGES];
    spare = new Coin();
    asked = new Asked();
    days = new Days(asked);
    ways = new Ways(asked, now);
    possible = new boolean[1 << DOUBTED_MOST];
    reaches = new int[COINS_MOST];
    friends = new int[PEOPLE_MOST];
  }

  public int feed(int a, int b, int c, int d, int e) {
    if (tape.size + 20 > TAPE_MOST) {
      return NONE;
    }
    tape.add(a);
    tape.add(b);
    tape.add(c);
    tape.add(d);
    tape.add(e);
    return tape.size;
  }

  public int end(int n) {
    if (n < 0 || n > tape.size) {
      return NONE;
    }
    tape.size = n;
    return n;
  }

  public int town() {
    Plan plan = townReader.read();
    // A text with a fault is taken off the tape, too.
    tape.size = 0;
    if (plan == null) {
      return CANT - tape.fault;
    }
    now.begin(plan);
    return plan.coins;
  }

  public int rule() {
    if (ruleCount >= RULES_MOST) {
      return NONE;
    }
    Rule made = ruleReader.read();
    tape.size = 0;
    if (made == null) {
      return CANT - tape.fault;
    }
    rules[ruleCount] = made;
    ruleCount++;
    return ruleCount - 1;
  }

  public int force(int rule) {
    if (rule != NONE && ruleAt(rule) == null) {
      return CANT;
    }
    int was = now.force;
    now.force = rule;
    return was;
  }

  public int coin(int coin, int what) {
    if (!hasCoin(coin)) {
      return NONE;
    }
    Coin c = now.coins[coin];
    switch (what) {
      case 0:
        return c.worth;
      case 1:
        return c.holder;
      case 2:
        return c.stamp;
      case 3:
        return c.hands;
      case 4:
        return c.fresh ? 1 : 0;
      case 5:
        return now.isVoid(c) ? 1 : 0;
      case 6:
        return c.homes;
      default:
        return NONE;
    }
  }

  public int meeting(int meeting, int what) {
    if (!hasMeeting(meeting)) {
      return NONE;
    }
    switch (what) {
      case 0:
        return now.plan.day[meeting];
      case 1:
        return now.plan.first[meeting];
      case 2:
        return now.plan.second[meeting];
      default:
        return NONE;
    }
  }

  public int person(int person, int what) {
    if (!hasPerson(person)) {
      return NONE;
    }
    switch (what) {
      case 0:
        return now.held(person);
      case 1:
        return now.goodWorth(person);
      case 2:
        return now.metToday(person);
      default:
        return NONE;
    }
  }

  public int pay(int coin, int to) {
    if (!hasCoin(coin) || !hasPerson(to)) {
      return NONE;
    }
    Coin c = now.coins[coin];
    if (c.holder == to) {
      return NONE;
    }
    if (now.isVoid(c)) {
      return CANT - 1;
    }
    if (!has(now.metToday(c.holder), to)) {
      return CANT - 2;
    }
    asked.aboutPaying(now, coin, to);
    if (barred()) {
      return CANT - 3;
    }
    c.goTo(to);
    return 0;
  }

  public int home(int coin) {
    if (!hasCoin(coin)) {
      return NONE;
    }
    Coin c = now.coins[coin];
    if (now.isVoid(c)) {
      return CANT - 1;
    }
    if (!c.fresh) {
      return CANT - 2;
    }
    asked.aboutHome(now, coin);
    if (barred()) {
      return CANT - 3;
    }
    now.bringHome(c);
    return c.homes;
  }

  public int rest(int n) {
    if (!hasTown() || n < 1 || n > REST_MOST || now.day + n > LAST_DAY) {
      return NONE;
    }
    now.day += n;
    return now.day;
  }

  public int run(int rule, int n) {
    Rule r = ruleAt(rule);
    if (r == null || !hasTown() || n < 1 || n > DAYS_MOST || now.day + n > LAST_DAY) {
      return NONE;
    }
    days.goBy(now, r, n, false);
    return now.day;
  }

  public int ahead(int rule, int n, int what) {
    Rule r = ruleAt(rule);
    if (r == null || !hasTown() || n < 0 || n > DAYS_MOST || what < 0 || what > 2) {
      return NONE;
    }
    trial.copyFrom(now);
    int paid = days.goBy(trial, r, n, false);
    if (what == 0) {
      return trial.homecomings - now.homecomings;
    }
    return what == 1 ? trial.voids() : paid;
  }

  public int soonest(int coin) {
    if (!hasCoin(coin)) {
      return NONE;
    }
    layWays(coin);
    return ways.firstDay(0);
  }

  public int fewest(int coin) {
    if (!hasCoin(coin)) {
      return NONE;
    }
    layWays(coin);
    return ways.fewestPays();
  }

  public int lost() {
    if (!hasTown()) {
      return NONE;
    }
    int bits = 0;
    for (int i = 0; i < now.plan.coins; i++) {
      layWays(i);
      if (ways.isLost(0)) {
        bits |= 1 << i;
      }
    }
    return bits;
  }

  public int strangers() {
    if (!hasTown()) {
      return NONE;
    }
    int found = 0;
    for (int i = 0; i < now.plan.coins; i++) {
      layWays(i);
      if (ways.isLost(0)) {
        reaches[found] = ways.reached;
        found++;
      }
    }
    int everybody = (1 << now.plan.people) - 1;
    int best = everybody;
    for (int set = 0; set < everybody; set++) {
      if (Integer.bitCount(set) < Integer.bitCount(best) && touchesAll(set, found)) {
        best = set;
      }
    }
    return best;
  }

  public int dear(int meeting) {
    if (!hasMeeting(meeting)) {
      return NONE;
    }
    int more = 0;
    for (int i = 0; i < now.plan.coins; i++) {
      layWays(i);
      if (ways.isLost(1 << meeting) && !ways.isLost(0)) {
        more += now.coins[i].worth;
      }
    }
    return more;
  }

  public int rings(int n, int person) {
    if (!hasPerson(person) || n < RING_LEAST || n > RING_MOST) {
      return NONE;
    }
    Plan plan = now.plan;
    Arrays.fill(friends, 0);
    for (int m = 0; m < plan.meetings; m++) {
      friends[plan.first[m]] |= 1 << plan.second[m];
      friends[plan.second[m]] |= 1 << plan.first[m];
    }
    // Each ring is walked both ways round.
    return rounds(friends, person, person, 1 << person, n - 1) / 2;
  }

  public int never(int person, int n) {
    if (!hasPerson(person) || n < 1 || n > DAYS_MOST) {
      return NONE;
    }
    Rule bars = ruleAt(now.force);
    for (int i = 0; i < n; i++) {
      int day = now.day + i;
      spare.begin(1, person, day);
      ways.lay(bars, spare, now.plan.coins, day);
      if (ways.isLost(0)) {
        return day;
      }
    }
    return CANT;
  }

  public boolean came(int coin, int how) {
    if (!hasCoin(coin) || how < NONE || how > 1) {
      return false;
    }
    now.coins[coin].told = how;
    return true;
  }

  public int met(int what) {
    if (!hasTown() || what < 0 || what > 2) {
      return NONE;
    }
    int all = (1 << Math.min(now.plan.meetings, DOUBTED_MOST)) - 1;
    for (int were = 0; were <= all; were++) {
      possible[were] = true;
    }
    for (int i = 0; i < now.plan.coins; i++) {
      int told = now.coins[i].told;
      if (told != NONE) {
        layWays(i);
        strikeOut(all, told == 1);
      }
    }
    int sets = 0;
    int always = all;
    int ever = 0;
    for (int were = 0; were <= all; were++) {
      if (possible[were]) {
        sets++;
        always &= were;
        ever |= were;
      }
    }
    if (what == 0 || sets == 0) {
      return sets;
    }
    return what == 1 ? always : all & ~ever;
  }

  public int seed(int x) {
    if (x < 0) {
      return NONE;
    }
    int was = now.x;
    now.x = x;
    return was;
  }

  public int years(int rule, int m, int n, int what) {
    Rule r = ruleAt(rule);
    if (r == null || !hasTown() || m < 1 || m > YEARS_MOST || n < 1 || n > DAYS_MOST) {
      return NONE;
    }
    if (what < 0 || what > 1) {
      return NONE;
    }
    int x = now.x;
    int homecomings = 0;
    int voids = 0;
    for (int i = 0; i < m; i++) {
      trial.copyFrom(now);
      // The DRAWS of one time go on from those of the time before it.
      trial.x = x;
      days.goBy(trial, r, n, true);
      x = trial.x;
      homecomings += trial.homecomings - now.homecomings;
      voids += Integer.bitCount(trial.voids());
    }
    return what == 0 ? homecomings : voids;
  }

  public int count(int what) {
    switch (what) {
      case 0:
        return now.plan.people;
      case 1:
        return now.plan.coins;
      case 2:
        return now.plan.meetings;
      case 3:
        return now.day;
      case 4:
        return now.homecomings;
      case 5:
        return ruleCount;
      case 6:
        return now.force;
      case 7:
        return now.plan.year;
      case 8:
        return now.toldCoins();
      case 9:
        return now.x;
      case 10:
        return tape.size;
      case 11:
        return Integer.bitCount(now.voids());
      default:
        return NONE;
    }
  }

  public int image(int k) {
    if (k < 0 || k >= IMAGES) {
      return NONE;
    }
    if (images[k] == null) {
      images[k] = new State(now.plan);
    }
    images[k].copyFrom(now);
    return now.day;
  }

  public int back(int k) {
    if (k < 0 || k >= IMAGES || images[k] == null) {
      return NONE;
    }
    now.copyFrom(images[k]);
    return now.day;
  }

  private static boolean has(int bits, int i) {
    return ((bits >>> i) & 1) != 0;
  }

  private boolean hasTown() {
    return now.plan.people > 0;
  }

  private boolean hasPerson(int person) {
    return person >= 0 && person < now.plan.people;
  }

  private boolean hasCoin(int coin) {
    return coin >= 0 && coin < now.plan.coins;
  }

  private boolean hasMeeting(int meeting) {
    return meeting >= 0 && meeting < now.plan.meetings;
  }

  private Rule ruleAt(int rule) {
    return rule >= 0 && rule < ruleCount ? rules[rule] : null;
  }

  /** Whether the RULE IN FORCE bars what is asked about. */
  private boolean barred() {
    Rule bars = ruleAt(now.force);
    return bars != null && bars.some(Rule.BAR, asked);
  }

  private void layWays(int coin) {
    ways.lay(ruleAt(now.force), now.coins[coin], coin, now.day);
  }

  private boolean touchesAll(int set, int found) {
    for (int i = 0; i < found && i < reaches.length; i++) {
      if ((reaches[i] & set) == 0) {
        return false;
      }
    }
    return true;
  }

  /** How many walks go from one of the PEOPLE by so many more, none seen before, to the start. */
  private static int rounds(int[] friends, int start, int at, int seen, int left) {
    if (left <= 0) {
      return has(friends[at], start) ? 1 : 0;
    }
    int sum = 0;
    for (int next = 0; next < friends.length; next++) {
      if (has(friends[at] & ~seen, next)) {
        sum += rounds(friends, start, next, seen | 1 << next, left - 1);
      }
    }
    return sum;
  }

  /** Strikes out the sets by which the COIN whose ways are laid would not be as told. */
  private void strikeOut(int all, boolean toldHome) {
    for (int were = 0; were <= all; were++) {
      if (possible[were] && (ways.firstDay(all & ~were) != CANT) != toldHome) {
        possible[were] = false;
      }
    }
  }

  /** The TAPE, and a reader that goes along it piece by piece. */
  private static final class Text {
    private static final int END = 0;
    private static final int WORD = 1;
    private static final int NUMBER = 2;
    private static final int SIGN = 3;
    private static final int BROKEN = 4;
    private static final int DIGITS_MOST = 5;

    /** Added to a sign < or > behind which = stands. */
    static final int OR_EQUAL = 256;

    static final int MISPLACED = 0;
    static final int BAD_NUMBER = 1;
    static final int TOO_DEEP = 2;
    static final int TOO_LONG = 3;
    static final int TOO_MANY = 4;

    final char[] bytes = new char[TAPE_MOST];
    int size;
    int place;
    int behind;
    int kind;
    int sign;
    int number;
    int fault;

    void add(int four) {
      for (int shift = 24; shift >= 0; shift -= 8) {
        if (size < bytes.length) {
          bytes[size] = (char) ((four >>> shift) & 255);
          size++;
        }
      }
    }

    void begin() {
      behind = 0;
      fault = 0;
      kind = END;
      next();
    }

    /** Goes on to the next piece; behind a fault there is none. */
    void next() {
      if (kind == BROKEN) {
        return;
      }
      int at = behind;
      while (at < size && bytes[at] == ' ') {
        at++;
      }
      place = at;
      kind = WORD;
      while (at < size && bytes[at] >= 'a' && bytes[at] <= 'z') {
        at++;
      }
      if (at == place) {
        kind = NUMBER;
        number = 0;
        while (at < size && bytes[at] >= '0' && bytes[at] <= '9') {
          // One of too many digits is below all that may be told.
          number = at - place < DIGITS_MOST ? number * 10 + bytes[at] - '0' : NONE;
          at++;
        }
      }
      if (at == place) {
        kind = END;
        if (at < size) {
          kind = SIGN;
          sign = bytes[at];
          at++;
          if ((sign == '<' || sign == '>') && at < size && bytes[at] == '=') {
            sign += OR_EQUAL;
            at++;
          }
        }
      }
      behind = at;
    }

    boolean isEnd() {
      return kind == END;
    }

    boolean isNumber() {
      return kind == NUMBER;
    }

    boolean isSign(int wanted) {
      return kind == SIGN && sign == wanted;
    }

    boolean isWord(String word) {
      if (kind != WORD || behind - place != word.length()) {
        return false;
      }
      for (int i = 0; i < word.length(); i++) {
        if (bytes[place + i] != word.charAt(i)) {
          return false;
        }
      }
      return true;
    }

    /** Which of some words, each with a blank behind it, from 1 on; 0: none of these. */
    int whichWord(String words) {
      int length = kind == WORD ? behind - place : 0;
      int which = 1;
      int same = 0;
      for (int i = 0; i < words.length(); i++) {
        char c = words.charAt(i);
        if (c == ' ') {
          if (length > 0 && same == length) {
            return which;
          }
          which++;
          same = 0;
        } else {
          same = same >= 0 && same < length && bytes[place + same] == c ? same + 1 : NONE;
        }
      }
      return 0;
    }

    /** Keeps the first fault alone. */
    void fail(int what) {
      if (fault == 0) {
        fault = 1 + 8 * place + what;
      }
      kind = BROKEN;
    }
  }

  /** A TOWN as it was told; one without PEOPLE is none. */
  private static final class Plan {
    int people;
    int year;
    int coins;
    int meetings;
    final int[] worth = new int[COINS_MOST];
    final int[] holder = new int[COINS_MOST];
    final int[] stamp = new int[COINS_MOST];
    final int[] day = new int[MEETINGS_MOST];
    final int[] first = new int[MEETINGS_MOST];
    final int[] second = new int[MEETINGS_MOST];
    /** The MEETINGS by their days, of one day in the order told. */
    final int[] order = new int[MEETINGS_MOST];

    void addCoin(int itsWorth, int itsHolder, int itsStamp) {
      if (coins < COINS_MOST) {
        worth[coins] = itsWorth;
        holder[coins] = itsHolder;
        stamp[coins] = itsStamp;
        coins++;
      }
    }

    void addMeeting(int itsDay, int one, int other) {
      if (meetings < MEETINGS_MOST) {
        day[meetings] = itsDay;
        first[meetings] = one;
        second[meetings] = other;
        int at = meetings;
        while (at > 0 && day[order[at - 1]] > itsDay) {
          order[at] = order[at - 1];
          at--;
        }
        order[at] = meetings;
        meetings++;
      }
    }
  }

  /** Reads a TOWN off the TAPE. */
  private static final class TownReader {
    private static final int CLAUSES_MOST = 40;
    /** Each word has a blank behind it, and stands in the place that its number says. */
    private static final String KINDS = "people year coin meet ";
    private static final int PEOPLE = 1;
    private static final int YEAR = 2;
    private static final int COIN = 3;
    private static final int MEET = 4;
    private static final int PEOPLE_LEAST = 2;
    private static final int YEAR_WITHOUT = 365;
    private static final int YEAR_MOST = 999;
    private static final int WORTH_MOST = 99;
    private static final int STAMP_MOST = 999;
    private static final int MEETING_DAY_MOST = 1999;

    final Text text;
    int clauses;
    boolean yearTold;

    TownReader(Text text) {
      this.text = text;
    }

    /** The TOWN, or null: then the text has its fault. */
    Plan read() {
      Plan plan = new Plan();
      plan.year = YEAR_WITHOUT;
      clauses = 0;
      yearTold = false;
      text.begin();
      readClause(plan);
      for (int i = 0; i < TAPE_MOST && text.isSign(';'); i++) {
        text.next();
        readClause(plan);
      }
      if (!text.isEnd()) {
        text.fail(Text.MISPLACED);
      }
      return text.fault == 0 ? plan : null;
    }

    private void readClause(Plan plan) {
      int kind = text.whichWord(KINDS);
      if (kind == 0) {
        text.fail(Text.MISPLACED);
        return;
      }
      boolean tooMany = (kind == PEOPLE) != (clauses == 0) || clauses >= CLAUSES_MOST;
      tooMany |= kind == YEAR && yearTold;
      tooMany |= kind == COIN && plan.coins >= COINS_MOST;
      tooMany |= kind == MEET && plan.meetings >= MEETINGS_MOST;
      if (tooMany) {
        text.fail(Text.TOO_MANY);
        return;
      }
      clauses++;
      text.next();
      switch (kind) {
        case PEOPLE:
          plan.people = readNumber(PEOPLE_LEAST, PEOPLE_MOST, NONE);
          break;
        case YEAR:
          yearTold = true;
          plan.year = readNumber(1, YEAR_MOST, NONE);
          break;
        case COIN:
          readCoin(plan);
          break;
        default:
          readMeeting(plan);
          break;
      }
    }

    private void readCoin(Plan plan) {
      int worth = readNumber(1, WORTH_MOST, NONE);
      int holder = readNumber(0, plan.people - 1, NONE);
      int stamp = readNumber(0, STAMP_MOST, NONE);
      plan.addCoin(worth, holder, stamp);
    }

    private void readMeeting(Plan plan) {
      int day = readNumber(0, MEETING_DAY_MOST, NONE);
      int first = readNumber(0, plan.people - 1, NONE);
      int second = readNumber(0, plan.people - 1, first);
      plan.addMeeting(day, first, second);
    }

    private int readNumber(int least, int most, int not) {
      if (!text.isNumber()) {
        text.fail(Text.MISPLACED);
        return 0;
      }
      int number = text.number;
      if (number < least || number > most || number == not) {
        text.fail(Text.BAD_NUMBER);
        return 0;
      }
      text.next();
      return number;
    }
  }

  /** A RULE: the TESTS of its CLAUSES, each as a code in which what is joined stands ahead. */
  private static final class Rule {
    /** Each word has a blank behind it, and stands in the place that its number says. */
    static final String KINDS = "pay bar home ";
    static final int PAY = 1;
    static final int BAR = 2;
    static final int HOME = 3;

    final int[] code;
    final int[] kinds;
    /** Where in the code the TEST of each CLAUSE ends. */
    final int[] ends;

    Rule(int[] code, int[] kinds, int[] ends) {
      this.code = code;
      this.kinds = kinds;
      this.ends = ends;
    }

    /** Whether some TEST of a kind holds. */
    boolean some(int kind, Asked asked) {
      int from = 0;
      for (int i = 0; i < kinds.length && i < ends.length; i++) {
        if (kinds[i] == kind && asked.holds(code, from, ends[i])) {
          return true;
        }
        from = ends[i];
      }
      return false;
    }
  }

  /** Reads a RULE off the TAPE. */
  private static final class RuleReader {
    private static final int CLAUSES_MOST = 12;
    private static final int DEEP_MOST = 10;
    private static final int PARTS_MOST = 60;

    final Text text;
    /** Each entry comes of a byte of its own, so it never has more than these. */
    final int[] code = new int[TAPE_MOST];
    int size;
    final int[] kinds = new int[CLAUSES_MOST];
    final int[] ends = new int[CLAUSES_MOST];
    int clauses;
    int parts;

    RuleReader(Text text) {
      this.text = text;
    }

    /** The RULE, or null: then the text has its fault. */
    Rule read() {
      size = 0;
      clauses = 0;
      parts = 0;
      text.begin();
      boolean more = true;
      for (int i = 0; i < TAPE_MOST && more; i++) {
        int kind = text.whichWord(Rule.KINDS);
        if (kind == 0) {
          text.fail(Text.MISPLACED);
        } else if (clauses >= CLAUSES_MOST) {
          text.fail(Text.TOO_MANY);
        } else {
          text.next();
          readTest(0);
          kinds[clauses] = kind;
          ends[clauses] = size;
          clauses++;
        }
        more = text.isSign(';');
        if (more) {
          text.next();
        }
      }
      if (!text.isEnd()) {
        text.fail(Text.MISPLACED);
      }
      if (text.fault != 0) {
        return null;
      }
      int[] itsCode = Arrays.copyOf(code, size);
      return new Rule(itsCode, Arrays.copyOf(kinds, clauses), Arrays.copyOf(ends, clauses));
    }

    /** The word and joins at once, or when its PART is there. */
    private void readTest(int deep) {
      boolean more = true;
      for (int i = 0; i < TAPE_MOST && more; i++) {
        readFact(deep);
        for (int k = 0; k < TAPE_MOST && text.isWord("and"); k++) {
          text.next();
          readFact(deep);
          emit(Asked.AND);
        }
        if (i > 0) {
          emit(Asked.OR);
        }
        more = text.isWord("or");
        if (more) {
          text.next();
        }
      }
    }

    private void readFact(int deep) {
      int inner = deep;
      while (inner < DEEP_MOST && text.isWord("not")) {
        inner++;
        text.next();
      }
      boolean open = text.isSign('[');
      if (inner >= DEEP_MOST && (open || text.isWord("not"))) {
        text.fail(Text.TOO_DEEP);
      } else if (open) {
        text.next();
        readTest(inner + 1);
        if (text.isSign(']')) {
          text.next();
        } else {
          text.fail(Text.MISPLACED);
        }
      } else {
        readSum();
        int sign = compareSign();
        takePart(sign != 0);
        readSum();
        emit(sign);
      }
      // Two of the word not are none.
      if ((inner - deep) % 2 != 0) {
        emit(Asked.NOT);
      }
    }

    /** The signs * and / join at once, + and - when their TERM is there. */
    private void readSum() {
      int waiting = 0;
      boolean more = true;
      for (int i = 0; i < TAPE_MOST && more; i++) {
        readValue();
        int sign = factorSign();
        for (int k = 0; k < TAPE_MOST && sign != 0; k++) {
          text.next();
          readValue();
          emit(sign);
          sign = factorSign();
        }
        if (waiting != 0) {
          emit(waiting);
        }
        waiting = termSign();
        more = waiting != 0;
        if (more) {
          text.next();
        }
      }
    }

    private void readValue() {
      boolean number = text.isNumber();
      int value = number ? text.number : -text.whichWord(Asked.WORDS);
      if (number && value == NONE) {
        text.fail(Text.BAD_NUMBER);
      } else {
        takePart(number || value != 0);
        emit(value);
      }
    }

    /** Goes on behind a VALUE, or the SIGN of a FACT, if it stands there and is not one too many. */
    private void takePart(boolean stands) {
      if (!stands) {
        text.fail(Text.MISPLACED);
      } else if (parts >= PARTS_MOST) {
        text.fail(Text.TOO_LONG);
      } else {
        parts++;
        text.next();
      }
    }

    private int compareSign() {
      if (text.isSign('<')) {
        return Asked.LESS;
      }
      if (text.isSign('<' + Text.OR_EQUAL)) {
        return Asked.AT_MOST;
      }
      if (text.isSign('=')) {
        return Asked.EQUAL;
      }
      if (text.isSign('>' + Text.OR_EQUAL)) {
        return Asked.AT_LEAST;
      }
      return text.isSign('>') ? Asked.MORE : 0;
    }

    private int factorSign() {
      if (text.isSign('*')) {
        return Asked.TIMES;
      }
      return text.isSign('/') ? Asked.OVER : 0;
    }

    private int termSign() {
      if (text.isSign('+')) {
        return Asked.PLUS;
      }
      return text.isSign('-') ? Asked.MINUS : 0;
    }

    private void emit(int entry) {
      if (size < code.length) {
        code[size] = entry;
        size++;
      }
    }
  }

  /** The WORDS as they stand for one question, and what a TEST answers to it. */
  private static final class Asked {
    /** Each word has a blank behind it, and stands in the place that its number says. */
    static final String WORDS = "coin worth age hands strange purse giver taker day ";

    // Entries of a code: a NUMBER is itself, all others are below 0.
    static final int COIN = -1;
    static final int WORTH = -2;
    static final int AGE = -3;
    static final int HANDS = -4;
    static final int STRANGE = -5;
    static final int PURSE = -6;
    static final int GIVER = -7;
    static final int TAKER = -8;
    static final int DAY = -9;
    static final int PLUS = -10;
    static final int MINUS = -11;
    static final int TIMES = -12;
    static final int OVER = -13;
    static final int LESS = -14;
    static final int AT_MOST = -15;
    static final int EQUAL = -16;
    static final int AT_LEAST = -17;
    static final int MORE = -18;
    static final int AND = -19;
    static final int OR = -20;
    static final int NOT = -21;

    /** Ten levels leave two values each, and a SUM four more at most. */
    private static final int STACK = 64;

    /** The WORD w stands at -w. */
    final long[] words = new long[10];
    final long[] stack = new long[STACK];

    /** To be paid to somebody, as things stand. */
    void aboutPaying(State state, int number, int taker) {
      Coin c = state.coins[number];
      tellCoin(c, number, state.day);
      tellPeople(c.holder, taker, state.purse(c.holder));
      tellHands(c.hands, !has(c.hands, taker));
    }

    /** To be brought home, as things stand. */
    void aboutHome(State state, int number) {
      Coin c = state.coins[number];
      tellCoin(c, number, state.day);
      tellPeople(c.holder, c.holder, state.purse(c.holder));
      tellHands(c.hands, c.fresh);
    }

    void tellCoin(Coin c, int number, int day) {
      words[-COIN] = number;
      words[-WORTH] = c.worth;
      words[-AGE] = day - c.stamp;
      words[-DAY] = day;
    }

    void tellPeople(int giver, int taker, int purse) {
      words[-GIVER] = giver;
      words[-TAKER] = taker;
      words[-PURSE] = purse;
    }

    void tellHands(int hands, boolean strange) {
      words[-HANDS] = Integer.bitCount(hands);
      words[-STRANGE] = strange ? 1 : 0;
    }

    boolean holds(int[] code, int from, int to) {
      int top = 0;
      for (int i = from; i < to && i < code.length; i++) {
        int entry = code[i];
        if (entry >= DAY) {
          if (top < STACK) {
            stack[top] = entry >= 0 ? entry : words[-entry];
            top++;
          }
        } else if (entry == NOT) {
          if (top > 0) {
            stack[top - 1] = 1 - stack[top - 1];
          }
        } else if (top > 1) {
          top--;
          stack[top - 1] = joined(entry, stack[top - 1], stack[top]);
        }
      }
      return top > 0 && stack[0] != 0;
    }

    private static long joined(int sign, long a, long b) {
      switch (sign) {
        case PLUS:
          return a + b;
        case MINUS:
          return a - b;
        case TIMES:
          return a * b;
        case OVER:
          return b == 0 ? 0 : a / b;
        case LESS:
          return a < b ? 1 : 0;
        case AT_MOST:
          return a <= b ? 1 : 0;
        case EQUAL:
          return a == b ? 1 : 0;
        case AT_LEAST:
          return a >= b ? 1 : 0;
        case MORE:
          return a > b ? 1 : 0;
        case AND:
          return a & b;
        default:
          return a | b;
      }
    }
  }

  /** A COIN as it is at one time. */
  private static final class Coin {
    int worth;
    int holder;
    int stamp;
    int hands;
    boolean fresh;
    int homes;
    int told;

    void begin(int itsWorth, int itsHolder, int itsStamp) {
      worth = itsWorth;
      holder = itsHolder;
      homes = 0;
      told = NONE;
      stampAnew(itsStamp);
    }

    void copyFrom(Coin other) {
      worth = other.worth;
      holder = other.holder;
      stamp = other.stamp;
      hands = other.hands;
      fresh = other.fresh;
      homes = other.homes;
      told = other.told;
    }

    void stampAnew(int day) {
      stamp = day;
      hands = 1 << holder;
      fresh = false;
    }

    void goTo(int taker) {
      fresh = !has(hands, taker);
      hands |= 1 << taker;
      holder = taker;
    }
  }

  /** All that an IMAGE keeps. */
  private static final class State {
    Plan plan;
    int day;
    int homecomings;
    int force;
    int x;
    final Coin[] coins;

    State(Plan plan) {
      this.plan = plan;
      force = NONE;
      coins = new Coin[COINS_MOST];
      for (int i = 0; i < COINS_MOST; i++) {
        coins[i] = new Coin();
      }
    }

    void begin(Plan told) {
      plan = told;
      day = 0;
      homecomings = 0;
      for (int i = 0; i < plan.coins; i++) {
        coins[i].begin(plan.worth[i], plan.holder[i], plan.stamp[i]);
      }
    }

    void copyFrom(State other) {
      plan = other.plan;
      day = other.day;
      homecomings = other.homecomings;
      force = other.force;
      x = other.x;
      for (int i = 0; i < plan.coins; i++) {
        coins[i].copyFrom(other.coins[i]);
      }
    }

    boolean isVoid(Coin c) {
      return day - c.stamp > plan.year;
    }

    int voids() {
      int bits = 0;
      for (int i = 0; i < plan.coins; i++) {
        if (isVoid(coins[i])) {
          bits |= 1 << i;
        }
      }
      return bits;
    }

    int held(int person) {
      int bits = 0;
      for (int i = 0; i < plan.coins; i++) {
        if (coins[i].holder == person) {
          bits |= 1 << i;
        }
      }
      return bits;
    }

    int purse(int person) {
      int sum = 0;
      for (int i = 0; i < plan.coins; i++) {
        if (coins[i].holder == person) {
          sum++;
        }
      }
      return sum;
    }

    int goodWorth(int person) {
      int sum = 0;
      for (int i = 0; i < plan.coins; i++) {
        Coin c = coins[i];
        if (c.holder == person && !isVoid(c)) {
          sum += c.worth;
        }
      }
      return sum;
    }

    int metToday(int person) {
      int bits = 0;
      for (int m = 0; m < plan.meetings; m++) {
        if (plan.day[m] == day) {
          if (plan.first[m] == person) {
            bits |= 1 << plan.second[m];
          } else if (plan.second[m] == person) {
            bits |= 1 << plan.first[m];
          }
        }
      }
      return bits;
    }

    int toldCoins() {
      int sum = 0;
      for (int i = 0; i < plan.coins; i++) {
        if (coins[i].told != NONE) {
          sum++;
        }
      }
      return sum;
    }

    void bringHome(Coin c) {
      c.stampAnew(day);
      c.homes++;
      homecomings++;
    }

    int draw() {
      x = (int) ((x * 1103515245L + 12345L) & 2147483647L);
      return x / 65536;
    }
  }

  /** Lets DAYS go by in a TOWN, by a RULE. */
  private static final class Days {
    final Asked asked;
    int paid;

    Days(Asked asked) {
      this.asked = asked;
    }

    /** So many DAYS, with or without MEETINGS by DRAWS: how often COINS are paid in them. */
    int goBy(State state, Rule rule, int n, boolean draws) {
      paid = 0;
      int people = state.plan.people;
      for (int i = 0; i < n && people > 0; i++) {
        int first = draws ? state.draw() % people : 0;
        int second = draws ? state.draw() % people : 0;
        passDay(state, rule, first, second);
      }
      return paid;
    }

    /** One DAY, at which the two meet, too, if they are unlike. */
    private void passDay(State state, Rule rule, int first, int second) {
      Plan plan = state.plan;
      for (int m = 0; m < plan.meetings; m++) {
        if (plan.day[m] == state.day) {
          holdMeeting(state, rule, plan.first[m], plan.second[m]);
        }
      }
      if (first != second) {
        holdMeeting(state, rule, first, second);
      }
      for (int i = 0; i < plan.coins; i++) {
        Coin c = state.coins[i];
        if (c.fresh && !state.isVoid(c)) {
          asked.aboutHome(state, i);
          if (!rule.some(Rule.BAR, asked) && rule.some(Rule.HOME, asked)) {
            state.bringHome(c);
          }
        }
      }
      state.day = Math.min(state.day + 1, LAST_DAY);
    }

    private void holdMeeting(State state, Rule rule, int first, int second) {
      // What the second one gets now does not go back.
      int seconds = state.held(second);
      handOver(state, rule, state.held(first), second);
      handOver(state, rule, seconds, first);
    }

    private void handOver(State state, Rule rule, int those, int taker) {
      for (int i = 0; i < state.plan.coins; i++) {
        Coin c = state.coins[i];
        if (has(those, i) && !state.isVoid(c)) {
          asked.aboutPaying(state, i, taker);
          if (!rule.some(Rule.BAR, asked) && rule.some(Rule.PAY, asked)) {
            c.goTo(taker);
            paid++;
          }
        }
      }
    }
  }

  /** The ways that one COIN can go along the MEETINGS to come till it is home. */
  private static final class Ways {
    private static final int SHUT = 0;
    private static final int AMONG_HANDS = 1;
    private static final int HOME_BY_STRANGER = 2;
    private static final int FAR = 1000;

    final Asked asked;
    final State state;
    Rule bars;
    Coin coin;
    int number;
    int day;
    boolean homeNow;
    /** What it is to be paid at each MEETING, by the plan's order: by the first one, by the second one. */
    final int[] forth = new int[MEETINGS_MOST];
    final int[] hither = new int[MEETINGS_MOST];
    /** Who could have it, after firstDay has found no day. */
    int reached;
    final int[] pays = new int[PEOPLE_MOST];

    Ways(Asked asked, State state) {
      this.asked = asked;
      this.state = state;
      coin = new Coin();
    }

    /** Asks all bar TESTS at once: they don't depend on the way by which it came. */
    void lay(Rule itsBars, Coin c, int itsNumber, int from) {
      bars = itsBars;
      coin = c;
      number = itsNumber;
      day = from;
      homeNow = isGood(from) && c.fresh && mayComeHome(c.holder, c.hands, from);
      Plan plan = state.plan;
      for (int k = 0; k < plan.meetings; k++) {
        int m = plan.order[k];
        int then = plan.day[m];
        boolean open = isGood(from) && then >= from && isGood(then);
        forth[k] = open ? step(plan.first[m], plan.second[m], then) : SHUT;
        hither[k] = open ? step(plan.second[m], plan.first[m], then) : SHUT;
      }
    }

    private boolean isGood(int then) {
      return then - coin.stamp <= state.plan.year;
    }

    private int step(int giver, int taker, int then) {
      if (!has(coin.hands, giver)) {
        return SHUT;
      }
      boolean strange = !has(coin.hands, taker);
      if (bars != null) {
        asked.tellCoin(coin, number, then);
        asked.tellPeople(giver, taker, state.purse(giver));
        asked.tellHands(coin.hands, strange);
        if (bars.some(Rule.BAR, asked)) {
          return SHUT;
        }
      }
      if (!strange) {
        return AMONG_HANDS;
      }
      return mayComeHome(taker, coin.hands | 1 << taker, then) ? HOME_BY_STRANGER : SHUT;
    }

    private boolean mayComeHome(int person, int hands, int then) {
      if (bars == null) {
        return true;
      }
      asked.tellCoin(coin, number, then);
      asked.tellPeople(person, person, state.purse(person));
      asked.tellHands(hands, true);
      return !bars.some(Rule.BAR, asked);
    }

    /** Whether it is good, and can't be home if some MEETINGS are none. */
    boolean isLost(int without) {
      return isGood(day) && firstDay(without) == CANT;
    }

    /** The first day at which it can be home if some MEETINGS are none. */
    int firstDay(int without) {
      reached = 1 << coin.holder;
      if (homeNow) {
        return day;
      }
      Plan plan = state.plan;
      for (int k = 0; k < plan.meetings; k++) {
        int m = plan.order[k];
        int byFirst = has(reached, plan.first[m]) ? forth[k] : SHUT;
        int bySecond = has(reached, plan.second[m]) ? hither[k] : SHUT;
        if (!has(without, m)) {
          if (byFirst == HOME_BY_STRANGER || bySecond == HOME_BY_STRANGER) {
            return plan.day[m];
          }
          if (byFirst == AMONG_HANDS) {
            reached |= 1 << plan.second[m];
          }
          if (bySecond == AMONG_HANDS) {
            reached |= 1 << plan.first[m];
          }
        }
      }
      return CANT;
    }

    int fewestPays() {
      if (homeNow) {
        return 0;
      }
      Arrays.fill(pays, FAR);
      pays[coin.holder] = 0;
      int best = FAR;
      Plan plan = state.plan;
      for (int k = 0; k < plan.meetings; k++) {
        int first = plan.first[plan.order[k]];
        int second = plan.second[plan.order[k]];
        int byFirst = pays[first] + 1;
        int bySecond = pays[second] + 1;
        if (forth[k] == AMONG_HANDS) {
          pays[second] = Math.min(pays[second], byFirst);
        } else if (forth[k] == HOME_BY_STRANGER) {
          best = Math.min(best, byFirst);
        }
        if (hither[k] == AMONG_HANDS) {
          pays[first] = Math.min(pays[first], bySecond);
        } else if (hither[k] == HOME_BY_STRANGER) {
          best = Math.min(best, bySecond);
        }
      }
      return best < FAR ? best : CANT;
    }
  }
}
