/** Promises 15 to 18 and 23: towers, and what a pull would do. */
public final class PullTest {
  private static final Check CHECK = new Check();

  public static void main(String[] args) {
    promise15();
    promise16();
    promise17();
    promise18();
    promise23();
    CHECK.end();
  }

  private static void promise15() {
    // 1 and 2 on 0, 3 on 1, 4 on the floor, 5 on 3, 6 on 4
    PulledFromUnder x = Check.told("tt9;ot90;ot90;ot91;tt9;ot93;ot94;");
    int[][] want = {{0, 46, 0}, {1, 40, 0}, {1, 0, 0}, {2, 32, 0}, {0, 64, 4}, {3, 0, 0},
        {1, 0, 4}};
    for (int thing = 0; thing < 7; thing++) {
      for (int what = 0; what < 3; what++) {
        String call = "tower(" + thing + ", " + what + ")";
        CHECK.due(call, x.tower(thing, what), want[thing][what]);
      }
    }
    x.pulls(1, 0);
    CHECK.due("GONE and LIES are on it all the same", x.tower(0, 1), 46);
    CHECK.due("height", x.tower(5, 0), 3);
    CHECK.due("bottom", x.tower(5, 2), 0);
    CHECK.due("nobody", x.tower(7, 3), -1);
    CHECK.due("nobody", x.tower(-1, 0), -1);
    CHECK.due("other", x.tower(0, 3), -2);
    CHECK.due("other", x.tower(0, -1), -2);
    CHECK.dueRefusals("tower", x, 2, 2, 0, 0, 0, 0);
    String ten = "tt0;ot00;ot01;ot02;ot03;ot04;ot05;ot06;ot07;ot08;";
    CHECK.due("highest", Check.told(ten).tower(9, 0), 9);
  }

  private static void promise16() {
    PulledFromUnder x = Check.told("tt9;ot50;op90;oc91;ob02;ob13;");
    int[] want = {5, 0, -9, 9, 0, 0};
    for (int thing = 0; thing < want.length; thing++) {
      CHECK.due("leastSpeed(" + thing + ")", x.leastSpeed(thing), want[thing]);
    }
    CHECK.due("nothing has changed", x.count(2), 63);
    x.pulls(0, 4);
    CHECK.due("it LIES", x.leastSpeed(1), -3);
    CHECK.due("it is GONE", x.leastSpeed(0), -3);
    CHECK.due("nobody", x.leastSpeed(6), -1);
    CHECK.due("nobody", x.leastSpeed(-1), -1);
    CHECK.dueRefusals("leastSpeed", x, 2, 0, 2, 0, 0, 0);
  }

  private static void promise17() {
    PulledFromUnder x = Check.told("tt9;ot50;og50;oc90;op40;ob40;ot91;");
    int[] want = {54, 54, 38, 38, 34, 32, 0, 0, 0, 0};
    for (int speed = 0; speed <= 9; speed++) {
      CHECK.due("atOnce(0, " + speed + ")", x.atOnce(0, speed), want[speed]);
    }
    CHECK.due("atOnce(1, 8)", x.atOnce(1, 8), 64);
    CHECK.due("nothing has changed", x.count(2), 127);
    x.pulls(0, 5);
    CHECK.due("it LIES", x.atOnce(5, 0), -3);
    CHECK.due("it is GONE", x.atOnce(0, 0), -3);
    CHECK.due("below goes first", x.atOnce(0, -1), -4);
    CHECK.due("above goes first", x.atOnce(0, 10), -6);
    CHECK.due("nobody", x.atOnce(7, -1), -1);
    CHECK.dueRefusals("atOnce", x, 1, 0, 2, 1, 0, 1);
    // 1, ON 0, is GONE; 2, ON 1, LIES
    PulledFromUnder lies = Check.told("tt9;ot90;ot91;p10;");
    CHECK.due("one that is GONE does not fall", lies.atOnce(0, 0), 0);
    lies.setsUp(2);
    CHECK.due("2 is not ON 0", lies.atOnce(0, 0), 0);
  }

  private static void promise18() {
    // on 0: 1 (habit 1, grip 5) and 2 (habit 2, grip 6); 3 (habit 0) on 1
    PulledFromUnder x = Check.told("tt9;ot50;ot60;ot01;");
    CHECK.due("later(0, 9, 0)", x.later(0, 9, 0), 0);
    CHECK.due("later(0, 9, 1)", x.later(0, 9, 1), 0);
    CHECK.due("later(0, 9, 2)", x.later(0, 9, 2), 2);
    CHECK.due("later(0, 9, 3)", x.later(0, 9, 3), 14);
    CHECK.due("2 LIES at once and is not meant", x.later(0, 5, 3), 10);
    CHECK.due("later(0, 5, 99)", x.later(0, 5, 99), 10);
    CHECK.due("later(1, 0, 1)", x.later(1, 0, 1), 8);
    CHECK.due("nothing has changed", x.count(2), 15);
    PulledFromUnder falling = Check.told("tt9;ot00;tt0;f9;");
    CHECK.due("1 falls by the pull, 2 else, too", falling.later(0, 9, 1), 2);
    CHECK.due("behind 5 MINUTES 1 falls else, too", falling.later(0, 9, 5), 0);
    CHECK.due("nobody", x.later(4, -1, -1), -1);
    CHECK.due("below", x.later(0, -1, 100), -4);
    CHECK.due("below", x.later(0, 10, -1), -4);
    CHECK.due("above", x.later(0, 10, 0), -6);
    CHECK.due("above", x.later(0, 0, 100), -6);
    x.pulls(0, 9);
    CHECK.due("above goes first", x.later(0, 10, 0), -6);
    CHECK.due("it is GONE", x.later(0, 9, 99), -3);
    CHECK.dueRefusals("later", x, 1, 0, 1, 2, 0, 3);
  }

  private static void promise23() {
    PulledFromUnder x = Check.told("tt5;tg5;tc5;ot90;");
    int[] want = {2, 2, 2, 2, 1, 0, 0, 0, 0, 0};
    for (int speed = 0; speed <= 9; speed++) {
      CHECK.due("floorFalls(" + speed + ")", x.floorFalls(speed), want[speed]);
    }
    CHECK.due("nothing has changed", x.count(2), 15);
    CHECK.due("the floor is there", x.count(5), 1);
    CHECK.due("below", x.floorFalls(-1), -4);
    CHECK.due("above", x.floorFalls(10), -6);
    x.floor(4);
    CHECK.due("it is GONE", x.floorFalls(0), -9);
    CHECK.due("below goes first", x.floorFalls(-1), -4);
    CHECK.due("above goes first", x.floorFalls(10), -6);
    x.lays();
    CHECK.due("one that LIES is not meant", x.floorFalls(0), 1);
    CHECK.dueRefusals("floorFalls", x, 0, 0, 0, 2, 0, 2);
  }
}
