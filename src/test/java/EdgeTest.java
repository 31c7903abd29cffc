/** The last that still is so, and the first that no longer is: SPEEDS, HABITS, MINUTES, odds. */
public final class EdgeTest {
  private static final Check CHECK = new Check();
  private static final String KINDS = "tgpcwb";
  /** By KIND and FIGURE, as the document tells them. */
  private static final int[][] HABIT = {{0, 0, 0, 1, 1, 1, 2, 2, 2, 3},
      {0, 0, 0, 0, 0, 0, 1, 1, 1, 2}, {0, 1, 2, 4, 5, 6, 8, 9, 10, 12},
      {20, 21, 22, 24, 25, 26, 28, 29, 30, 32}, {0, 1, 2, 4, 5, 6, 8, 9, 10, 12},
      {2, 2, 2, 2, 2, 2, 3, 3, 3, 4}};
  private static final int[][] GRIP = {{0, 1, 2, 3, 4, 5, 6, 7, 8, 9},
      {9, 8, 7, 6, 5, 4, 3, 2, 1, 0}, {0, 0, 1, 1, 2, 2, 3, 3, 4, 4},
      {0, 0, 0, 0, 0, 0, 0, 0, 0, 0}, {0, 0, 1, 1, 2, 2, 3, 3, 4, 4},
      {10, 9, 8, 7, 6, 5, 4, 3, 2, 1}};
  /** ON what falls behind 33 and 66 MINUTES; the last falls behind 98, 99, 100. */
  private static final String FALLS_98 = "tc9;oc90;oc81;ot02;f9;";
  private static final String FALLS_99 = "tc9;oc90;oc91;f9;";
  private static final String FALLS_100 = "tc9;oc90;oc81;ot62;f9;";

  public static void main(String[] args) {
    eachGripBySpeed();
    eachHabitByMinutes();
    habitOfAWatcher();
    airBeginsAgain();
    behindNone();
    ninetyNine();
    ninetyNineByAPull();
    thirty();
    tenMinutesOfOrder();
    leastSpeedTenWouldDo();
    ofSeveralTheFirst();
    twoWithoutAPair();
    propAtHabit();
    watchedByOne();
    draughtsAndHabit();
    leastAndMostOdds();
    rowOfStanding();
    draws();
    drawsOfTwenty();
    turnedAtTheEdge();
    CHECK.end();
  }

  private static String on(int kind, int figure) {
    return "tt0;o" + KINDS.charAt(kind) + figure + "0;";
  }

  private static String onFloor(int kind, int figure) {
    return "t" + KINDS.charAt(kind) + figure + ";";
  }

  /** With a SPEED of its GRIP it STANDS, with one less it LIES at once. */
  private static void eachGripBySpeed() {
    for (int kind = 0; kind < 6; kind++) {
      for (int figure = 0; figure <= 9; figure++) {
        int grip = GRIP[kind][figure];
        String of = " of " + KINDS.charAt(kind) + figure;
        CHECK.due("GRIP" + of, Check.told(on(kind, figure)).thing(1, 6), grip);
        CHECK.due("leastSpeed" + of, Check.told(on(kind, figure)).leastSpeed(0),
            grip <= 9 ? grip : -9);
        if (grip <= 9) {
          speed(of, kind, figure, grip, 0);
        }
        if (grip >= 1) {
          speed(of, kind, figure, grip - 1, 1);
        }
      }
    }
  }

  private static void speed(String of, int kind, int figure, int speed, int lie) {
    String at = of + " by " + speed;
    PulledFromUnder x = Check.told(on(kind, figure));
    CHECK.due("atOnce" + at, x.atOnce(0, speed), 2 * lie);
    CHECK.due("pulls" + at, x.pulls(0, speed), lie);
    CHECK.due("LIE" + at, x.count(3), 2 * lie);
    CHECK.due("p" + at, Check.told(on(kind, figure), "p0" + speed + ";").count(3), 2 * lie);
    PulledFromUnder y = Check.told(onFloor(kind, figure));
    CHECK.due("floorFalls" + at, y.floorFalls(speed), lie);
    CHECK.due("floor" + at, y.floor(speed), lie);
    CHECK.due("LIE" + at, y.count(3), lie);
    CHECK.due("f" + at, Check.told(onFloor(kind, figure), "f" + speed + ";").count(3), lie);
  }

  /** With AIR of its HABIT it STANDS, a MINUTE later it LIES. */
  private static void eachHabitByMinutes() {
    for (int kind = 0; kind < 6; kind++) {
      for (int figure = 0; figure <= 9; figure++) {
        int habit = HABIT[kind][figure];
        String of = " of " + KINDS.charAt(kind) + figure;
        PulledFromUnder x = Check.told(onFloor(kind, figure) + "f9;h0;");
        CHECK.due("HABIT" + of, x.thing(0, 5), habit);
        CHECK.due("falls" + of, x.falls(0), habit + 1);
        CHECK.due("first" + of, x.first(1), habit + 1);
        CHECK.due("allStand" + of, x.allStand(), habit);
        CHECK.due("behind HABIT" + of, x.behind(0, habit, 0), 0);
        CHECK.due("AIR then" + of, x.behind(0, habit, 1), habit);
        CHECK.due("STAND then" + of, x.behind(0, habit, 2), 1);
        CHECK.due("behind one more" + of, x.behind(0, habit + 1, 0), 1);
        CHECK.due("STAND then" + of, x.behind(0, habit + 1, 2), 0);
        CHECK.due("prop" + of, x.prop(habit), 0);
        CHECK.due("prop" + of, x.prop(habit + 1), 1);
        if (habit > 0) {
          CHECK.due("minutes" + of, x.minutes(habit), 1);
        }
        CHECK.due("AIR" + of, x.thing(0, 4), habit);
        CHECK.due("allStand" + of, x.allStand(), 0);
        CHECK.due("one more" + of, x.minutes(1), 0);
        CHECK.due("LIES" + of, x.thing(0, 3), 1);
      }
    }
  }

  private static void habitOfAWatcher() {
    PulledFromUnder x = Check.told("tw9;tt9;f8;h1;");
    CHECK.due("nobody LIES", x.thing(0, 5), 12);
    x.pulls(1, 9);
    CHECK.due("one that is GONE does not LIE", x.thing(0, 5), 12);
    PulledFromUnder y = Check.told("tw9;tt9;f8;");
    CHECK.due("one LIES", y.thing(0, 5), 0);
    y.setsUp(1);
    CHECK.due("it STANDS again", y.thing(0, 5), 12);
    PulledFromUnder itself = Check.told("tw9;tt0;f3;");
    CHECK.due("it LIES itself", itself.thing(0, 3), 1);
    CHECK.due("nobody else LIES", itself.thing(0, 5), 12);
    // 1 falls in the 4th MINUTE; as that one's falls begin nobody LIES, as the next one's do
    PulledFromUnder seen = Check.told("tw9;tt9;f9;");
    CHECK.due("behind 4", seen.behind(0, 4, 2), 1);
    CHECK.due("behind 5", seen.behind(0, 5, 2), 0);
    CHECK.due("falls", seen.falls(0), 5);
    // HELD, a WATCHER has AIR 0, and 0 is not above a HABIT of 0
    CHECK.due("HELD", Check.told("tw0;tt9;tt1;ot22;p20;").minutes(60), 2);
  }

  private static void airBeginsAgain() {
    PulledFromUnder x = Check.told("tt9;f9;m03;");
    CHECK.due("AIR", x.thing(0, 4), 3);
    x.lays();
    CHECK.due("HELD for a MINUTE", x.minutes(1), 1);
    CHECK.due("AIR", x.thing(0, 4), 0);
    x.floor(9);
    CHECK.due("AIR is 0 till a MINUTE goes by", x.thing(0, 4), 0);
    CHECK.due("falls", x.falls(0), 4);
    PulledFromUnder up = Check.told("tt9;f9;m03;h0;");
    CHECK.due("AIR", up.thing(0, 4), 0);
    CHECK.due("falls", up.falls(0), 4);
    PulledFromUnder lies = Check.told("tt9;f9;m04;");
    CHECK.due("LIES", lies.thing(0, 3), 1);
    CHECK.due("set up on nothing", lies.setsUp(0), 0);
    CHECK.due("AIR", lies.thing(0, 4), 0);
    CHECK.due("falls", lies.falls(0), 4);
  }

  /** Behind 0 MINUTES all is as it is now. */
  private static void behindNone() {
    PulledFromUnder x = Check.told("tt9;ot90;og60;f9;m03;p19;");
    int[][] want = {{0, 3, 2}, {2, 0, 2}, {0, 0, 2}};
    for (int thing = 0; thing < 3; thing++) {
      for (int what = 0; what < 3; what++) {
        CHECK.due("behind 0", x.behind(thing, 0, what), want[thing][what]);
      }
    }
    CHECK.due("behind 1", x.behind(0, 1, 0), 1);
    CHECK.due("later: nothing besides", x.later(0, 9, 0), 0);
    CHECK.due("key", x.key(0), 0);
    CHECK.due("prop", x.prop(0), 0);
    CHECK.due("prop", x.prop(1), 1);
    CHECK.due("two: the other pulls", x.two(2, 0, 0), 1);
    CHECK.due("draught", x.draught(0, 0, 2, 0), 1);
    CHECK.due("draught", x.draught(1, 0, 20, 0), 0);
    CHECK.due("pullMost", x.pullMost(2, 0, 1), 1);
    CHECK.due("LIES now", Check.told("tt9;f8;").falls(0), 0);
  }

  private static void ninetyNine() {
    PulledFromUnder x = Check.told(FALLS_98);
    PulledFromUnder y = Check.told(FALLS_99);
    PulledFromUnder z = Check.told(FALLS_100);
    CHECK.due("falls", x.falls(3), 98);
    CHECK.due("falls", y.falls(2), 99);
    CHECK.due("falls behind more than 99", z.falls(3), -9);
    CHECK.due("behind 97", x.behind(3, 97, 0), 0);
    CHECK.due("behind 98", x.behind(3, 98, 0), 1);
    CHECK.due("behind 98", y.behind(2, 98, 0), 0);
    CHECK.due("behind 99", y.behind(2, 99, 0), 1);
    CHECK.due("behind 99", z.behind(3, 99, 0), 0);
    CHECK.due("STAND", z.behind(3, 99, 2), 1);
    z.minutes(1);
    CHECK.due("a MINUTE nearer", z.falls(3), 99);
    CHECK.due("a MINUTE nearer", z.behind(3, 99, 0), 1);
    // in the ROW 99 is for 99, or never
    byRow(FALLS_99, 2, 256, 33, 66, 97);
    byRow(FALLS_99, 2, 0, 33, 66, 98);
    byRow(FALLS_99, 2, 512, 33, 66, 99);
    // a t ON one that falls behind 97: by FIGURES 0 to 2 behind 98, by others behind 99 or more
    for (String text : new String[] {FALLS_98, FALLS_100}) {
      byRow(text, 3, 7, 33, 66, 97, 98);
      byRow(text, 3, 1016, 33, 66, 97, 99);
      byRow(text, 3, 0, 33, 66, 97, 97);
    }
  }

  private static void byRow(String text, int thing, int figures, int... row) {
    PulledFromUnder x = Check.told(text);
    for (int number : row) {
      x.row(number);
    }
    String by = text + " FIGURES by " + row[row.length - 1];
    CHECK.due(by, x.whatWas(thing, 1), figures);
  }

  private static void ninetyNineByAPull() {
    PulledFromUnder x = Check.told("tt0;oc90;oc91;oc92;");
    CHECK.due("behind 98", x.later(0, 9, 98), 6);
    CHECK.due("behind 99", x.later(0, 9, 99), 14);
    PulledFromUnder hundred = Check.told("tt0;oc90;oc91;oc82;ot63;");
    CHECK.due("behind 99", hundred.later(0, 9, 99), 14);
    // 1 STANDS on nothing 12 MINUTES, whether 0 is PULLED or not: each n is told once, not twice
    PulledFromUnder falling = Check.told("tt9;tp9;ot60;f9;");
    CHECK.due("behind 2", falling.later(0, 9, 2), 0);
    CHECK.due("behind 3", falling.later(0, 9, 3), 4);
    CHECK.due("behind 6", falling.later(0, 9, 6), 4);
    CHECK.due("behind 7 it falls else, too", falling.later(0, 9, 7), 0);
    CHECK.due("behind 12", falling.later(0, 9, 12), 0);
    // pulling 0 makes 3 fewer STAND; 3 makes 3 fewer till the last one on it falls behind 99
    PulledFromUnder key = Check.told("tt0;ot00;ot00;tt0;oc93;oc94;oc95;");
    CHECK.due("key behind 98", key.key(98), 0);
    CHECK.due("key behind 99", key.key(99), 3);
    // the other would pull the last one of the tower, but for its falling anyhow
    PulledFromUnder two = Check.told("tc9;oc90;oc91;tt0;f9;");
    CHECK.due("two behind 98", two.two(3, 2, 98), 1);
    CHECK.due("two behind 99", two.two(3, 2, 99), 0);
    CHECK.due("two behind 98", two.two(2, 3, 98), 0);
    CHECK.due("prop behind 99", two.prop(99), 9);
  }

  /** ON 0, that is PULLED, it falls behind 30 MINUTES, or behind 31. */
  private static void thirty() {
    PulledFromUnder x = Check.told("tt0;oc70;");
    CHECK.due("behind 29", x.pullMost(1, 29, 0), 1);
    CHECK.due("behind 30", x.pullMost(1, 30, 0), 0);
    CHECK.due("which", x.pullMost(1, 30, 1), 0);
    PulledFromUnder y = Check.told("tt0;oc80;");
    CHECK.due("behind 30", y.pullMost(1, 30, 0), 1);
    CHECK.due("which", y.pullMost(1, 30, 1), 1);
    PulledFromUnder z = Check.told("tc7;f9;");
    CHECK.due("it STANDS with none", z.pullMost(0, 29, 0), 0);
    CHECK.due("not even with none", z.pullMost(0, 30, 0), -9);
    CHECK.due("not even with none", z.pullMost(0, 30, 1), -9);
  }

  /** 3 STANDS ON 0, that is PULLED first, second or third: AIR 10, 9, 8 behind 10 MINUTES. */
  private static void tenMinutesOfOrder() {
    String[] texts = {"tt9;tt9;tt9;op80;", "tt9;tt9;tt9;op70;", "tt9;tt9;tt9;op60;",
        "tt9;tt9;tt9;op50;"};
    int[] first = {12, 102, 120, 12};
    int[] stand = {1, 1, 1, 0};
    for (int i = 0; i < texts.length; i++) {
      PulledFromUnder x = Check.told(texts[i]);
      CHECK.due(texts[i] + " order", x.order(0, 1, 2, 9, 0), first[i]);
      CHECK.due(texts[i] + " how many", x.order(0, 1, 2, 9, 1), stand[i]);
      // GRIP 4, 3, 3, 2
      int grip = new int[] {4, 3, 3, 2}[i];
      CHECK.due(texts[i] + " at GRIP", x.order(0, 1, 2, grip, 1), stand[i]);
      CHECK.due(texts[i] + " below GRIP", x.order(0, 1, 2, grip - 1, 1), 0);
    }
  }

  private static void leastSpeedTenWouldDo() {
    CHECK.due("nothing ON it", Check.told("tt9;").leastSpeed(0), 0);
    CHECK.due("GRIP 0", Check.told("tt9;ot00;").leastSpeed(0), 0);
    CHECK.due("GRIP 1", Check.told("tt9;ot10;").leastSpeed(0), 1);
    CHECK.due("GRIP 9", Check.told("tt9;ot90;").leastSpeed(0), 9);
    CHECK.due("GRIP 9", Check.told("tt9;og00;").leastSpeed(0), 9);
    CHECK.due("GRIP 9", Check.told("tt9;ob10;").leastSpeed(0), 9);
    CHECK.due("GRIP 10", Check.told("tt9;ob00;").leastSpeed(0), -9);
    CHECK.due("the greatest GRIP", Check.told("tt9;ot30;ot70;og90;").leastSpeed(0), 7);
    CHECK.due("one that LIES has none", Check.told("tt9;ob00;f8;m03;h0;").leastSpeed(0), 0);
  }

  private static void ofSeveralTheFirst() {
    PulledFromUnder x = Check.told("tt0;tt0;tt0;f9;");
    CHECK.due("the least falls first", x.first(0), 0);
    CHECK.due("key: the least", x.key(0), 0);
    CHECK.due("order: as told", x.order(2, 1, 0, 9, 0), 12);
    CHECK.due("two: the first pair", x.two(2, 1, 1), 0);
    PulledFromUnder held = Check.told("tt0;ot90;tt0;ot92;tt9;");
    CHECK.due("key: the least", held.key(4), 0);
    CHECK.due("pullMost: the least", Check.told("tt9;ob00;tt9;").pullMost(2, 0, 1), 1);
    CHECK.due("pullMost: more", Check.told("tt9;ob00;ob00;tt9;").pullMost(3, 0, 1), 6);
  }

  /**
   * With two watchers: a and b fall in the first MINUTE, unless PULLED, and are seen in the next;
   * what is ON one falls in the third, if that one is PULLED now. So behind 3 MINUTES 2 STAND
   * if neither pulls, 1 if one of them does, the 2 watchers if both do: no pair is kept by both.
   */
  private static void twoWithoutAPair() {
    two("tw9;tt0;tt0;ot61;ot62;f9;", 3, 1, 2, 1);
    two("tw9;tw9;tt0;tt0;ot62;ot63;f9;", 2, 2, 3, 0);
    two("tw9;tw9;tt0;tt0;ot62;ot63;f9;", 3, 2, 3, -9);
    two("tw9;tw9;tt0;tt0;ot62;ot63;f9;", 3, 3, 2, -9);
    two("tw9;tw9;tt0;tt0;ot62;ot63;f9;", 4, 2, 3, 0);
    two("tw9;tw9;tw9;tt0;tt0;ot63;ot64;f9;", 3, 3, 4, -9);
    // what is ON a does not fall by then: 2 STAND if neither or a pulls, 1 if b does, 3 if both
    two("tw9;tw9;tt0;tt0;ot92;ot63;f9;", 3, 2, 3, 10);
  }

  private static void two(String text, int n, int a, int b, int want) {
    CHECK.due(text + " two behind " + n, Check.told(text).two(a, b, n), want);
  }

  /** Each that STANDS on nothing, by itself. */
  private static void propAtHabit() {
    PulledFromUnder x = Check.told("tt0;tt3;tt6;tt9;f9;");
    int[] want = {0, 1, 3, 7, 15, 15};
    for (int n = 0; n < want.length; n++) {
      CHECK.due("prop(" + n + ")", x.prop(n), want[n]);
    }
    x.lays();
    CHECK.due("all are HELD", x.prop(99), 0);
  }

  private static void watchedByOne() {
    PulledFromUnder x = Check.told("tw9;tw9;f9;");
    CHECK.due("none LIES", x.watched(0), 0);
    CHECK.due("none is HELD", x.watched(1), 0);
    x.lays();
    CHECK.due("all are HELD", x.watched(1), 1);
    x.floor(3);
    CHECK.due("both LIE", x.watched(0), 0);
    CHECK.due("none STANDS", x.watched(1), 1);
    x.setsUp(1);
    CHECK.due("one STANDS", x.watched(0), 1);
    CHECK.due("it is not HELD", x.watched(1), 0);
    x.setsUp(0);
    CHECK.due("none LIES", x.watched(0), 0);
  }

  private static void odds(String text, int n, int t, long above, long below) {
    PulledFromUnder x = Check.told(text);
    CHECK.due(text + " above " + n + ", " + t, x.draught(0, n, t, 0), above);
    CHECK.due(text + " below " + n + ", " + t, x.draught(0, n, t, 1), below);
  }

  /** On nothing it STANDS if n and how many draughts there are is not above HABIT. */
  private static void draughtsAndHabit() {
    odds("tp5;f9;", 7, 2, 0, 1);
    odds("tp5;f9;", 6, 2, 1, 64);
    odds("tp6;f9;", 7, 2, 1, 16);
    odds("tp7;f9;", 7, 2, 29, 128);
    odds("tp8;f9;", 7, 2, 1, 2);
    odds("tp9;f9;", 7, 2, 15, 16);
    odds("tc0;f9;", 7, 2, 1, 1);
    odds("tp6;f9;", 7, 20, 611596453, 640000000);
    // one that is HELD has no AIR by a draught
    odds("tt0;", 7, 2, 1, 1);
    odds("tt0;", 1, 20, 1, 1);
  }

  private static void leastAndMostOdds() {
    odds("tt3;f9;", 1, 2, 1, 2);
    odds("tt3;f9;", 1, 3, 2, 3);
    odds("tt3;f9;", 1, 19, 18, 19);
    odds("tt3;f9;", 1, 20, 19, 20);
    odds("tt3;f9;", 0, 20, 1, 1);
    odds("tt0;f9;", 0, 2, 1, 1);
    odds("tt0;f9;", 1, 2, 0, 1);
    odds("tg9;f9;m02;h0;", 2, 20, 361, 400);
    // with AIR 5 and HABIT 12 it STANDS behind 7 MINUTES only by no draught
    odds("tp9;f9;m05;", 7, 20, 893871739, 1280000000);
    odds("tp9;f9;m06;", 7, 20, 0, 1);
    odds("tp9;f9;m05;", 7, 2, 1, 128);
  }

  private static void judged(int want, int... numbers) {
    PulledFromUnder x = Check.told("tt0;tt3;tt6;tt9;f9;");
    for (int number : numbers) {
      x.row(number);
    }
    CHECK.due("judge", x.judge(), want);
    CHECK.due("the ROW has none then", x.count(6), 0);
  }

  /** 4 STAND behind 0 MINUTES, then 3, 2, 1, 0. */
  private static void rowOfStanding() {
    judged(-9);
    judged(-9, 4);
    judged(0, 3);
    judged(0, 5);
    judged(-9, 4, 3, 2, 1, 0, 0);
    judged(1, 4, 4, 2, 1);
    judged(4, 4, 3, 2, 1, 1);
    judged(5, 4, 3, 2, 1, 0, 1);
    judged(-9, 4, 3, 2, 1, 0, 0, 0, 0, 0, 0, 0, 0, 0, 0, 0, 0);
    judged(15, 4, 3, 2, 1, 0, 0, 0, 0, 0, 0, 0, 0, 0, 0, 0, 99);
  }

  private static void lot(String text, int n, int z, int stand, int lie) {
    PulledFromUnder x = Check.told(text);
    CHECK.due("lots(" + n + ", " + z + ", 0)", x.lots(n, z, 0), stand);
    CHECK.due("lots(" + n + ", " + z + ", 1)", x.lots(n, z, 1), lie);
  }

  /**
   * Of ten, with the SPEEDS between them, are drawn: 3 7, 6 9, 9 0, 4 7, 4 5 from the least int
   * as from 0; 1 0, 6 7, 8 9, 0 7, 7 9 from the greatest as from -1.
   */
  private static void draws() {
    String tens = "tt9;tt9;tt9;tt9;tt9;tt9;tt9;tt9;tt9;tt9;";
    String mixed = "tt9;ot50;og60;oc21;op52;tw5;ob45;tt3;ot37;og27;";
    int[][] want = {{Integer.MIN_VALUE, 6, 6, 0}, {0, 6, 6, 0}, {Integer.MAX_VALUE, 5, 3, 2},
        {-1, 5, 3, 2}, {1, 5, 2, 3}, {-256, 5, 5, 0}, {256, 6, 5, 1},
        // the first DRAW is of 0, the sign's bit alone, all bits but it, all bits
        {634785765, 7, 4, 4}, {-1512697883, 7, 4, 4}, {-1493846240, 7, 4, 4},
        {653637408, 7, 4, 4},
        // of 255 and 256, without and with the sign's bit
        {122584096, 6, 2, 4}, {-2024899552, 6, 2, 4}, {103732453, 6, 5, 1},
        {-2043751195, 6, 5, 1}};
    for (int[] row : want) {
      lot(tens, 1, row[0], row[1], 0);
      lot(mixed, 1, row[0], row[2], row[3]);
    }
  }

  private static void drawsOfTwenty() {
    String tens = "tt9;tt9;tt9;tt9;tt9;tt9;tt9;tt9;tt9;tt9;";
    String mixed = "tt9;ot50;og60;oc21;op52;tw5;ob45;tt3;ot37;og27;";
    // as many as there are are drawn of, those that do not STAND, too
    String gone = mixed + "p59;p79;";
    int[][] want = {{Integer.MIN_VALUE, 117, 95, 26, 55, 54}, {0, 117, 95, 26, 55, 54},
        {Integer.MAX_VALUE, 116, 91, 30, 54, 56}, {-1, 116, 91, 30, 54, 56},
        {1, 122, 89, 36, 37, 71}, {256, 121, 100, 25, 46, 60}};
    for (int[] row : want) {
      lot(tens, 20, row[0], row[1], 0);
      lot(mixed, 20, row[0], row[2], row[3]);
      lot(gone, 20, row[0], row[4], row[5]);
    }
    lot("tt9;ot90;", 20, 0, 2, 9);
    lot("tt9;ot90;", 20, -1, 0, 10);
    lot("tt9;ot90;", 20, 256, 0, 11);
    // of one it is always that one, at whatever SPEED
    lot("tt9;", 1, 0, 0, 0);
    lot("tt9;", 20, Integer.MAX_VALUE, 0, 0);
  }

  private static void turnedAtTheEdge() {
    PulledFromUnder x = Check.told("tt9;f9;m03;");
    CHECK.due("AIR is HABIT", x.allStand(), 0);
    CHECK.due("turn", x.turn(0, 5, 9), 9);
    CHECK.due("HABIT 4", x.allStand(), 1);
    CHECK.due("turn", x.turn(0, 1, 0), 59);
    CHECK.due("AIR above HABIT", x.thing(0, 4) - x.thing(0, 5), 3);
    CHECK.due("it STANDS till a MINUTE goes by", x.count(2), 1);
    CHECK.due("then it LIES", x.falls(0), 1);
    x.lays();
    CHECK.due("HELD in that MINUTE it STANDS", x.minutes(1), 1);
  }
}
