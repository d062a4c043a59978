import java.nio.charset.StandardCharsets;
import java.util.ArrayList;
import java.util.List;
import java.util.function.IntFunction;
import java.util.function.ToIntFunction;

/** What the tests share: answers that are due, and texts brought onto the TAPE. */
final class Check {
  private int wrong;
  private int asked;
  private String sentence = "";

  /** The sentence of the document that is tested from here on. */
  void says(String words) {
    sentence = words + ": ";
  }

  void due(String call, long got, long want) {
    asked++;
    if (got != want) {
      wrong++;
      System.out.println(sentence + call + " answered " + got + ", due is " + want);
    }
  }

  void same(String what, String got, String want) {
    asked++;
    if (!got.equals(want)) {
      wrong++;
      System.out.println(sentence + what + " is\n  " + got + ", due is\n  " + want);
    }
  }

  void due(String call, boolean got, boolean want) {
    due(call, got ? 1 : 0, want ? 1 : 0);
  }

  /** Ends the test: with exit code 1 if an answer was not the one that is due. */
  void close() {
    System.out.println(asked + " answers, " + wrong + " not as due");
    if (wrong != 0 || asked == 0) {
      System.exit(1);
    }
  }

  /** A text as feed takes it, five numbers of four bytes a call. */
  static List<int[]> fives(String text) {
    byte[] bytes = text.getBytes(StandardCharsets.ISO_8859_1);
    List<int[]> list = new ArrayList<>();
    for (int at = 0; at < bytes.length; at += 20) {
      int[] five = new int[5];
      for (int i = 0; i < 20 && at + i < bytes.length; i++) {
        five[i / 4] |= (bytes[at + i] & 255) << (24 - 8 * (i % 4));
      }
      list.add(five);
    }
    return list;
  }

  /** Puts a text onto the TAPE in place of what it has. */
  static void put(OtherHands x, String text) {
    x.end(0);
    for (int[] f : fives(text)) {
      x.feed(f[0], f[1], f[2], f[3], f[4]);
    }
    x.end(text.length());
  }

  static int town(OtherHands x, String text) {
    put(x, text);
    return x.town();
  }

  static int rule(OtherHands x, String text) {
    put(x, text);
    return x.rule();
  }

  /** A new object with a TOWN. */
  static OtherHands in(String town) {
    OtherHands x = new OtherHands();
    town(x, town);
    return x;
  }

  /** All that can be asked of an object, but for its images and the bytes of its TAPE. */
  static String all(OtherHands x) {
    StringBuilder sb = new StringBuilder("count");
    for (int what = 0; what < 12; what++) {
      sb.append(' ').append(x.count(what));
    }
    for (int i = 0; i < x.count(1); i++) {
      sb.append(" coin");
      for (int what = 0; what < 7; what++) {
        sb.append(' ').append(x.coin(i, what));
      }
    }
    for (int i = 0; i < x.count(2); i++) {
      sb.append(" meeting ").append(x.meeting(i, 0)).append(' ').append(x.meeting(i, 1)).append(' ').append(x.meeting(i, 2));
    }
    for (int i = 0; i < x.count(0); i++) {
      sb.append(" person ").append(x.person(i, 0)).append(' ').append(x.person(i, 1)).append(' ').append(x.person(i, 2));
    }
    sb.append(" met ").append(x.met(0)).append(' ').append(x.met(1)).append(' ').append(x.met(2));
    for (int i = 0; i < x.count(5); i++) {
      sb.append(" rule ").append(x.ahead(i, 9, 0)).append(' ').append(x.ahead(i, 9, 2));
    }
    return sb.toString();
  }

  /** An object in which there is something of all, as it is on day 2; its image 1 is of day 0. */
  static OtherHands busy() {
    OtherHands x = in("people 3;year 20;coin 5 0 1;coin 7 1 0;meet 2 0 1;meet 2 1 2;meet 4 0 2");
    rule(x, "bar worth=99");
    rule(x, "pay strange=1;home 1=1");
    x.force(0);
    x.seed(77);
    x.image(1);
    x.rest(2);
    x.pay(0, 1);
    x.home(0);
    x.pay(1, 2);
    x.came(0, 1);
    x.came(1, 1);
    x.feed(1, 2, 3, 4, 5);
    return x;
  }

  /** A call of a busy object that answers so, and behind which all is as it was. */
  void changesNothing(String call, int want, ToIntFunction<OtherHands> asked) {
    OtherHands x = busy();
    String before = all(x);
    due(call, asked.applyAsInt(x), want);
    same(call + ": what stays", all(x), before);
    due(call + ": image 0", x.back(0), -1);
    due(call + ": image 1", x.back(1), 0);
    due(call + ": image 2", x.back(2), -1);
    due(call + ": image 3", x.back(3), -1);
    OtherHands y = busy();
    y.back(1);
    same(call + ": image 1", all(x), all(y));
  }

  /** Refused for both ends of the numbers, too. */
  void refuses(String call, int want, IntFunction<ToIntFunction<OtherHands>> asked, int... wrong) {
    for (int n : wrong) {
      changesNothing(call + " of " + n, want, asked.apply(n));
    }
    changesNothing(call + " of the least", want, asked.apply(Integer.MIN_VALUE));
    changesNothing(call + " of the greatest", want, asked.apply(Integer.MAX_VALUE));
  }

  /** The answer for a FAULT. */
  static int fault(int place, int kind) {
    return -2 - (1 + 8 * place + kind);
  }
}
