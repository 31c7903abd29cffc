/** Promises 1 to 4: a new object, letters, a room told in letters, what a THING is. */
public final class RoomTest {
  private static final Check CHECK = new Check();
  private static final String TO_990 =
      "m60;m60;m60;m60;m60;m60;m60;m60;m60;m60;m60;m60;m60;m60;m60;m60;m30;";

  public static void main(String[] args) {
    promise1();
    promise2();
    promise3();
    promise3Faults();
    promise3LeavesAllAsItWas();
    promise4();
    promise4Kinds();
    CHECK.end();
  }

  private static void promise1() {
    PulledFromUnder x = new PulledFromUnder();
    int[] want = {0, 0, 0, 0, 0, 1, 0, 0};
    for (int what = 0; what < want.length; what++) {
      CHECK.due("new count(" + what + ")", x.count(what), want[what]);
    }
    CHECK.dueRefusals("new", x, 0, 0, 0, 0, 0, 0);
    CHECK.due("new on", x.on(), -3);
    CHECK.due("new lays", x.lays(), -3);
    CHECK.due("new clear", x.clear(), 0);
  }

  private static void promise2() {
    PulledFromUnder x = new PulledFromUnder();
    CHECK.due("letter -1", x.letter(-1), -4);
    CHECK.due("letter least", x.letter(Integer.MIN_VALUE), -4);
    CHECK.due("letter 256", x.letter(256), -6);
    CHECK.due("letter most", x.letter(Integer.MAX_VALUE), -6);
    CHECK.due("no letters", x.count(7), 0);
    CHECK.due("letter 0", x.letter(0), 1);
    CHECK.due("letter 255", x.letter(255), 2);
    for (int i = 3; i <= 96; i++) {
      CHECK.due("letter", x.letter('t'), i);
    }
    CHECK.due("letter 97th", x.letter('t'), -6);
    CHECK.due("letter 97th below", x.letter(-1), -4);
    CHECK.due("letters", x.count(7), 96);
    CHECK.dueRefusals("letter", x, 0, 0, 0, 3, 0, 3);
  }

  private static void promise3() {
    PulledFromUnder x = new PulledFromUnder();
    CHECK.due("a THING", Check.tell(x, "tt9;"), 1);
    CHECK.due("letters are no more", x.count(7), 0);
    CHECK.due("more", Check.tell(x, "og30;op61;m02;p09;h2;f4;"), 6);
    CHECK.due("things", x.count(0), 3);
    CHECK.due("minute", x.count(1), 2);
    CHECK.due("gone", x.count(4), 1);
    CHECK.due("stand", x.count(2), 6);
    CHECK.due("floor", x.count(5), 0);
    CHECK.due("kind", x.thing(1, 0), 1);
    CHECK.due("figure", x.thing(1, 1), 3);
    CHECK.due("on", x.thing(2, 2), 1);
    CHECK.due("speed counts", Check.tell(Check.told("tt9;ot80;"), "p07;"), 1);
    PulledFromUnder caught = Check.told("tt9;ot80;p07;");
    CHECK.due("caught", caught.count(3), 2);
    caught = Check.told("tt9;ot80;p08;");
    CHECK.due("not caught", caught.count(3), 0);
    CHECK.due("floor's speed", Check.told("tt5;f4;").count(3), 1);
    CHECK.due("floor's speed, not", Check.told("tt5;f5;").count(3), 0);
    CHECK.due("h, one that LIES", Check.told("tt5;f4;h0;").count(2), 1);
    PulledFromUnder air = Check.told("tp9;f9;m05;");
    CHECK.due("air", air.thing(0, 4), 5);
    CHECK.due("h, one that STANDS", Check.tell(air, "h0;"), 1);
    CHECK.due("air again", air.thing(0, 4), 0);
    CHECK.due("ten", Check.told("tt0;tt0;tt0;tt0;tt0;tt0;tt0;tt0;tt0;ot98;").count(0), 10);
    CHECK.due("m60", Check.told("m60;m01;").count(1), 61);
    CHECK.due("96 letters", Check.tell(new PulledFromUnder(),
        "m01;m01;m01;m01;m01;m01;m01;m01;m01;m01;m01;m01;"
            + "m01;m01;m01;m01;m01;m01;m01;m01;m01;m01;m01;m01;"), 24);
  }

  private static void fault(String ahead, String text, int want) {
    PulledFromUnder x = ahead.isEmpty() ? new PulledFromUnder() : Check.told(ahead);
    CHECK.due("\"" + ahead + "\", then \"" + text + "\"", Check.tell(x, text), want);
    CHECK.due("letters behind a fault", x.count(7), 0);
    CHECK.dueRefusals("a fault is counted nowhere:", x, 0, 0, 0, 0, 0, 0);
  }

  private static void promise3Faults() {
    fault("", "", -1000);
    fault("", ";", -1000);
    fault("", "T", -1000);
    fault("", "t", -1001);
    fault("", "tx", -1001);
    fault("", "tt", -1002);
    fault("", "tt0", -1003);
    fault("", "ttt;", -1002);
    fault("", "tt00;", -1003);
    fault("", "tt0;;", -1004);
    fault("", "tt0;ot0;", -1007);
    fault("", "tt0;ot000", -1008);
    fault("", "p0;", -1002);
    fault("", "f;", -1001);
    fault("", "h00;", -1002);
    fault("", "m1;", -1002);
    fault("", "m011;", -1003);
    fault("", "m" + (char) 200, -1001);
    // kind 1 goes first, wherever it is
    fault("", "p00;x", -1004);
    fault("", "p00;tt", -1006);
    // kind 2
    fault("", "p00;", -2000);
    fault("", "tt0;p10;", -2004);
    fault("", "ot00;", -2000);
    fault("", "tt0;ot01;", -2004);
    fault("", "tt0;p09;ot00;", -2008);
    fault("", "tt1;f0;ot00;", -2007);
    fault("", "f0;tt0;", -2003);
    fault("", "tt0;p00;p00;", -2008);
    fault("", "f0;f0;", -2003);
    fault("", "h0;", -2000);
    fault("", "tt0;p00;h0;", -2008);
    fault("", "m00;", -2000);
    fault("", "m61;", -2000);
    fault("", "m99;", -2000);
    fault("tt0;tt0;tt0;tt0;tt0;", "tt0;tt0;tt0;tt0;tt0;tt0;", -2020);
    fault("tt0;tt0;tt0;tt0;tt0;", "ot00;ot00;ot00;ot00;ot00;ot00;", -2025);
    fault(TO_990, "m09;m01;", -2004);
    fault(TO_990, "m10;", -2000);
    fault("tt9;f9;", "tt0;", -2000);
    fault("tt0;p00;", "p00;", -2000);
  }

  private static void promise3LeavesAllAsItWas() {
    PulledFromUnder x = Check.told("tt9;ot50;");
    CHECK.due("fault", Check.tell(x, "p00;m03;tt1;p00;"), -2012);
    int[] want = {2, 0, 3, 0, 0, 1, 0, 0};
    for (int what = 0; what < want.length; what++) {
      CHECK.due("behind a fault count(" + what + ")", x.count(what), want[what]);
    }
    CHECK.due("last minute", Check.told(
        "m60;m60;m60;m60;m60;m60;m60;m60;m60;m60;m60;m60;m60;m60;m60;m60;m39;").count(1), 999);
  }

  private static void promise4() {
    PulledFromUnder x = Check.told("tt9;og60;ow71;p08;m02;");
    int[][] want = {{0, 9, -9, 2, 0, 3, 9, 0}, {1, 6, 0, 1, 2, 1, 3, 0}, {4, 7, 1, 0, 0, 0, 3, 0}};
    for (int thing = 0; thing < 3; thing++) {
      for (int what = 0; what < 8; what++) {
        String call = "thing(" + thing + ", " + what + ")";
        CHECK.due(call, x.thing(thing, what), want[thing][what]);
      }
    }
    CHECK.due("held on one that STANDS", Check.told("tt0;ot00;").thing(1, 7), 1);
    CHECK.due("held though what holds is not", Check.told("tp9;ot00;f9;").thing(1, 7), 1);
    CHECK.due("not held", Check.told("tp9;ot00;f9;").thing(0, 7), 0);
    CHECK.due("one that LIES is not held", Check.told("tt0;ot90;p00;").thing(1, 7), 0);
    PulledFromUnder lies = Check.told("tt9;ot90;p08;");
    lies.setsUp(1);
    CHECK.due("on one that is GONE", lies.thing(1, 7), 0);
    CHECK.due("nobody", x.thing(3, 0), -1);
    CHECK.due("nobody", x.thing(-1, 9), -1);
    CHECK.due("other", x.thing(0, 8), -2);
    CHECK.due("other", x.thing(0, -1), -2);
    CHECK.dueRefusals("thing", x, 2, 2, 0, 0, 0, 0);
  }

  private static void promise4Kinds() {
    int[][] habit = {{0, 0, 0, 1, 1, 1, 2, 2, 2, 3}, {0, 0, 0, 0, 0, 0, 1, 1, 1, 2},
        {0, 1, 2, 4, 5, 6, 8, 9, 10, 12}, {20, 21, 22, 24, 25, 26, 28, 29, 30, 32},
        {0, 1, 2, 4, 5, 6, 8, 9, 10, 12}, {2, 2, 2, 2, 2, 2, 3, 3, 3, 4}};
    int[][] grip = {{0, 1, 2, 3, 4, 5, 6, 7, 8, 9}, {9, 8, 7, 6, 5, 4, 3, 2, 1, 0},
        {0, 0, 1, 1, 2, 2, 3, 3, 4, 4}, {0, 0, 0, 0, 0, 0, 0, 0, 0, 0},
        {0, 0, 1, 1, 2, 2, 3, 3, 4, 4}, {10, 9, 8, 7, 6, 5, 4, 3, 2, 1}};
    for (int kind = 0; kind < 6; kind++) {
      for (int figure = 0; figure < 10; figure++) {
        PulledFromUnder x = Check.told("t" + "tgpcwb".charAt(kind) + figure + ";");
        String of = "of " + kind + ", " + figure;
        CHECK.due("kind " + of, x.thing(0, 0), kind);
        CHECK.due("habit " + of, x.thing(0, 5), habit[kind][figure]);
        CHECK.due("grip " + of, x.thing(0, 6), grip[kind][figure]);
      }
    }
    PulledFromUnder watchers = Check.told("tw6;tw7;f2;");
    CHECK.due("both LIE", watchers.count(3), 3);
    CHECK.due("each sees the other", watchers.thing(0, 5), 0);
    watchers.setsUp(1);
    CHECK.due("nobody else LIES", watchers.thing(0, 5), 8);
    CHECK.due("somebody else LIES", watchers.thing(1, 5), 0);
  }
}
