/** All that can be asked of an object, as a text: where two texts are the same, so are the two. */
final class Whole {
  private Whole() {
  }

  /** Behind it the object has no ROW and no letters and is as its IMAGE, so it is asked last. */
  static String of(PulledFromUnder x) {
    StringBuilder all = new StringBuilder();
    tell(x, all);
    all.append("judge ").append(x.judge()).append('\n');
    all.append("room ").append(x.room()).append('\n');
    tell(x, all);
    all.append("on ").append(x.on()).append('\n');
    tell(x, all);
    return all.toString();
  }

  static int[] refusals(PulledFromUnder x) {
    int[] all = new int[6];
    for (int i = 0; i < 6; i++) {
      all[i] = x.count(11 + i);
    }
    return all;
  }

  private static void tell(PulledFromUnder x, StringBuilder all) {
    for (int what = 0; what <= 7; what++) {
      all.append(x.count(what)).append(' ');
    }
    all.append('\n');
    int things = x.count(0);
    for (int thing = 0; thing < things; thing++) {
      for (int what = 0; what <= 7; what++) {
        all.append(x.thing(thing, what)).append(' ');
      }
      all.append('\n');
    }
  }
}
