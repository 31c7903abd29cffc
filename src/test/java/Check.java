/** Counts the calls whose answer is not the one that is due, and prints them. */
final class Check {
  private int wrong = 0;
  private int asked = 0;

  void due(String call, long got, long want) {
    asked++;
    if (got != want) {
      wrong++;
      System.out.println(call + " answered " + got + ", due is " + want);
    }
  }

  /** Each refusal told behind an object: how many of -1, -2, -3, -4, -5, -6 there were. */
  void dueRefusals(String where, PulledFromUnder x, int... want) {
    for (int i = 0; i < 6; i++) {
      due(where + " count(" + (11 + i) + ")", x.count(11 + i), want[i]);
    }
  }

  /** Types a text and makes it a ROOM. */
  static int tell(PulledFromUnder x, String text) {
    for (int i = 0; i < text.length(); i++) {
      x.letter(text.charAt(i));
    }
    return x.room();
  }

  static PulledFromUnder told(String... texts) {
    PulledFromUnder x = new PulledFromUnder();
    for (String text : texts) {
      if (tell(x, text) < 0) {
        throw new IllegalStateException("not a room: " + text);
      }
    }
    return x;
  }

  void end() {
    System.out.println(asked + " answers, " + wrong + " not as due");
    if (wrong != 0) {
      System.exit(1);
    }
  }
}
