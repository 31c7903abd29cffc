/** Promises 11 to 14: what will be, n MINUTES on. */
public final class AheadTest {
  private static final Check CHECK = new Check();
  /** They fall behind 4, 6, 6, 29, 13 MINUTES. */
  private static final String FALLING = "tt9;ot30;og60;oc21;op52;f9;";

  public static void main(String[] args) {
    promise11();
    promise12();
    promise13();
    promise14();
    CHECK.end();
  }

  private static void promise11() {
    PulledFromUnder x = Check.told(FALLING);
    int[][] want = {{0, 0, 0, 0}, {0, 3, 0, 0}, {0, 3, 1, 3}, {0, 4, 0, 1}, {0, 4, 1, 4},
        {0, 99, 1, 4}, {1, 5, 1, 1}, {1, 5, 0, 0}, {1, 6, 0, 1}, {3, 6, 2, 2}, {3, 28, 0, 0},
        {3, 28, 1, 22}, {3, 29, 0, 1}, {3, 99, 2, 0}, {0, 0, 2, 5}, {4, 12, 2, 2}, {4, 13, 2, 1}};
    for (int[] row : want) {
      String call = "behind(" + row[0] + ", " + row[1] + ", " + row[2] + ")";
      CHECK.due(call, x.behind(row[0], row[1], row[2]), row[3]);
    }
    CHECK.due("nothing has changed", x.count(2), 31);
    CHECK.due("no minute", x.count(1), 0);
    CHECK.due("GONE", Check.told("tt0;p00;").behind(0, 7, 0), 2);
    PulledFromUnder late = new PulledFromUnder();
    for (int i = 0; i < 16; i++) {
      late.minutes(60);
    }
    Check.tell(late, "m39;tt0;f9;");
    CHECK.due("MINUTE may pass 999", late.behind(0, 1, 0), 1);
    CHECK.due("nobody", x.behind(5, -1, 3), -1);
    CHECK.due("nobody", x.behind(-1, 0, 0), -1);
    CHECK.due("below", x.behind(0, -1, 3), -4);
    CHECK.due("above", x.behind(0, 100, 3), -6);
    CHECK.due("other", x.behind(0, 99, 3), -2);
    CHECK.due("other", x.behind(0, 0, -1), -2);
    CHECK.dueRefusals("behind", x, 2, 2, 0, 1, 0, 1);
  }

  private static void promise12() {
    PulledFromUnder x = Check.told(FALLING);
    int[] want = {4, 6, 6, 29, 13};
    for (int thing = 0; thing < want.length; thing++) {
      CHECK.due("falls(" + thing + ")", x.falls(thing), want[thing]);
    }
    PulledFromUnder towers = Check.told("tc9;oc90;oc91;oc92;f9;");
    CHECK.due("falls", towers.falls(0), 33);
    CHECK.due("falls", towers.falls(1), 66);
    CHECK.due("behind 99", towers.falls(2), 99);
    CHECK.due("behind more", towers.falls(3), -9);
    CHECK.due("held", Check.told("tt0;").falls(0), -9);
    CHECK.due("LIES now", Check.told("tt9;f0;").falls(0), 0);
    CHECK.due("GONE", Check.told("tt9;p00;").falls(0), -9);
    CHECK.due("nobody", x.falls(5), -1);
    CHECK.due("nobody", x.falls(Integer.MIN_VALUE), -1);
    CHECK.dueRefusals("falls", x, 2, 0, 0, 0, 0, 0);
  }

  private static void promise13() {
    PulledFromUnder x = Check.told(FALLING);
    CHECK.due("which", x.first(0), 0);
    CHECK.due("when", x.first(1), 4);
    x.minutes(4);
    CHECK.due("of several the least", x.first(0), 1);
    CHECK.due("when", x.first(1), 2);
    x.minutes(2);
    CHECK.due("not the least", x.first(0), 4);
    CHECK.due("when", x.first(1), 7);
    CHECK.due("other", x.first(2), -2);
    CHECK.due("other", x.first(-1), -2);
    CHECK.dueRefusals("first", x, 0, 2, 0, 0, 0, 0);
    PulledFromUnder held = Check.told("tt9;tp9;f4;");
    CHECK.due("one that LIES is not meant", held.first(0), 1);
    CHECK.due("when", held.first(1), 13);
    CHECK.due("none", Check.told("tt9;").first(0), -9);
    CHECK.due("none", Check.told("tt9;").first(1), -9);
    CHECK.due("none STANDS", Check.told("tt9;f0;").first(0), -9);
  }

  private static void promise14() {
    PulledFromUnder x = Check.told(FALLING);
    CHECK.due("allStand", x.allStand(), 3);
    x.minutes(3);
    CHECK.due("allStand", x.allStand(), 0);
    x.minutes(1);
    CHECK.due("those that LIE now are not meant", x.allStand(), 1);
    x.minutes(60);
    CHECK.due("all LIE", x.allStand(), 99);
    CHECK.due("held", Check.told("tt0;").allStand(), 99);
    CHECK.due("longest", Check.told("tc9;f9;").allStand(), 32);
    CHECK.due("empty", new PulledFromUnder().allStand(), 99);
  }
}
