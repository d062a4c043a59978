import java.nio.charset.StandardCharsets;
import java.util.ArrayList;
import java.util.List;

/** What the tests share: answers that are due, and texts brought onto the TAPE. */
final class Check {
  private int wrong;
  private int asked;

  void due(String call, long got, long want) {
    asked++;
    if (got != want) {
      wrong++;
      System.out.println(call + " answered " + got + ", due is " + want);
    }
  }

  void due(String call, boolean got, boolean want) {
    due(call, got ? 1 : 0, want ? 1 : 0);
  }

  /** Ends the test: with exit code 1 if an answer was not the one that is due. */
  void close() {
    System.out.println(asked + " answers, " + wrong + " not as due");
    if (wrong != 0 || asked == 0) {
      System.exit(1);
    }
  }

  /** A text as feed takes it, five numbers of four bytes a call. */
  static List<int[]> fives(String text) {
    byte[] bytes = text.getBytes(StandardCharsets.ISO_8859_1);
    List<int[]> list = new ArrayList<>();
    for (int at = 0; at < bytes.length; at += 20) {
      int[] five = new int[5];
      for (int i = 0; i < 20 && at + i < bytes.length; i++) {
        five[i / 4] |= (bytes[at + i] & 255) << (24 - 8 * (i % 4));
      }
      list.add(five);
    }
    return list;
  }

  /** Puts a text onto the TAPE in place of what it has. */
  static void put(OtherHands x, String text) {
    x.end(0);
    for (int[] f : fives(text)) {
      x.feed(f[0], f[1], f[2], f[3], f[4]);
    }
    x.end(text.length());
  }

  static int town(OtherHands x, String text) {
    put(x, text);
    return x.town();
  }

  static int rule(OtherHands x, String text) {
    put(x, text);
    return x.rule();
  }

  /** A new object with a TOWN. */
  static OtherHands in(String town) {
    OtherHands x = new OtherHands();
    town(x, town);
    return x;
  }

  /** The answer for a FAULT. */
  static int fault(int place, int kind) {
    return -2 - (1 + 8 * place + kind);
  }
}
