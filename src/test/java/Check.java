import java.nio.charset.StandardCharsets;

/** What the tests share: answers that are due, and texts brought onto the TAPE. */
final class Check {
  private int wrong;
  private int asked;

  void due(String call, long got, long want) {
    asked++;
    if (got != want) {
      wrong++;
      System.out.println(call + " answered " + got + ", due is " + want);
    }
  }

  void due(String call, boolean got, boolean want) {
    due(call, got ? 1 : 0, want ? 1 : 0);
  }

  /** Ends the test: with exit code 1 if an answer was not the one that is due. */
  void close() {
    System.out.println(asked + " answers, " + wrong + " not as due");
    if (wrong != 0 || asked == 0) {
      System.exit(1);
    }
  }

  /** Puts a text onto the TAPE in place of what it has. */
  static void put(OtherHands x, String text) {
    x.end(0);
    byte[] bytes = text.getBytes(StandardCharsets.ISO_8859_1);
    for (int at = 0; at < bytes.length; at += 20) {
      int[] five = new int[5];
      for (int i = 0; i < 20; i++) {
        int b = at + i < bytes.length ? bytes[at + i] & 255 : 0;
        five[i / 4] |= b << (24 - 8 * (i % 4));
      }
      x.feed(five[0], five[1], five[2], five[3], five[4]);
    }
    x.end(bytes.length);
  }

  static int town(OtherHands x, String text) {
    put(x, text);
    return x.town();
  }

  static int rule(OtherHands x, String text) {
    put(x, text);
    return x.rule();
  }

  /** A new object with a TOWN. */
  static OtherHands in(String town) {
    OtherHands x = new OtherHands();
    town(x, town);
    return x;
  }

  /** The answer for a FAULT. */
  static int fault(int place, int kind) {
    return -2 - (1 + 8 * place + kind);
  }
}
