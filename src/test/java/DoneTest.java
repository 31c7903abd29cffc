/** Promises 5 to 10: what is done to THINGS and the FLOOR, and MINUTES that go by. */
public final class DoneTest {
  private static final Check CHECK = new Check();

  public static void main(String[] args) {
    promise5();
    promise6();
    promise7();
    promise8();
    promise9();
    promise10();
    promise10Watchers();
    CHECK.end();
  }

  private static void promise5() {
    // grips of those on 0: 5, 4, 0, 2, 6
    String text = "tt9;ot50;og50;oc90;op40;ob40;";
    int[] want = {4, 4, 3, 3, 2, 1, 0, 0, 0, 0};
    for (int speed = 0; speed <= 9; speed++) {
      CHECK.due("pulls(0, " + speed + ")", Check.told(text).pulls(0, speed), want[speed]);
    }
    PulledFromUnder x = Check.told(text);
    CHECK.due("pulls", x.pulls(0, 4), 2);
    CHECK.due("GONE", x.count(4), 1);
    CHECK.due("LIE", x.count(3), 34);
    CHECK.due("STAND", x.count(2), 28);
    PulledFromUnder tower = Check.told("tt0;ot90;ot91;");
    CHECK.due("those above do not fall at once", tower.pulls(0, 0), 1);
    CHECK.due("STAND", tower.count(2), 4);
    CHECK.due("a bride of 0 is always caught", Check.told("tt0;ob00;").pulls(0, 9), 1);
    CHECK.due("on one that was set up", Check.told("tt9;ot90;f0;h0;").pulls(0, 0), 1);
    PulledFromUnder up = Check.told("tt9;ot90;f0;");
    CHECK.due("nobody", up.pulls(2, -1), -1);
    CHECK.due("nobody", up.pulls(-1, 0), -1);
    CHECK.due("below", up.pulls(0, -1), -4);
    CHECK.due("above", up.pulls(0, 10), -6);
    CHECK.due("it LIES", up.pulls(0, 9), -3);
    CHECK.due("pulls", up.pulls(1, 9), 0);
    CHECK.due("it is GONE", up.pulls(1, 9), -3);
    CHECK.dueRefusals("pulls", up, 2, 0, 2, 1, 0, 1);
  }

  private static void promise6() {
    String text = "tt5;tg5;tc9;ot90;";
    int[] want = {2, 2, 2, 2, 1, 0, 0, 0, 0, 0};
    for (int speed = 0; speed <= 9; speed++) {
      CHECK.due("floor(" + speed + ")", Check.told(text).floor(speed), want[speed]);
    }
    PulledFromUnder x = Check.told(text);
    CHECK.due("below", x.floor(-1), -4);
    CHECK.due("above", x.floor(10), -6);
    CHECK.due("still there", x.count(5), 1);
    CHECK.due("floor", x.floor(4), 1);
    CHECK.due("LIE", x.count(3), 1);
    CHECK.due("floor is GONE", x.count(5), 0);
    CHECK.due("below, though GONE", x.floor(-1), -4);
    CHECK.due("above, though GONE", x.floor(10), -6);
    CHECK.due("GONE", x.floor(0), -3);
    CHECK.dueRefusals("floor", x, 0, 0, 1, 2, 0, 2);
  }

  private static void promise7() {
    PulledFromUnder x = Check.told("tp9;tt9;tg9;ot00;f0;");
    CHECK.due("LIE", x.count(3), 3);
    CHECK.due("one is left ON it", x.lays(), 1);
    CHECK.due("the floor is there", x.count(5), 1);
    CHECK.due("held again", x.thing(2, 7), 1);
    CHECK.due("it is there", x.lays(), -3);
    CHECK.dueRefusals("lays", x, 0, 0, 1, 0, 0, 0);
    PulledFromUnder air = Check.told("tp9;f9;m05;");
    CHECK.due("lays", air.lays(), 1);
    CHECK.due("air till a MINUTE goes by", air.thing(0, 4), 5);
    air.minutes(1);
    CHECK.due("air", air.thing(0, 4), 0);
  }

  private static void promise8() {
    PulledFromUnder x = Check.told("tt9;ot90;ot91;f8;m20;");
    CHECK.due("all LIE", x.count(3), 7);
    CHECK.due("on one that LIES", x.setsUp(1), 0);
    CHECK.due("STANDS", x.thing(1, 3), 0);
    CHECK.due("air", x.thing(1, 4), 0);
    CHECK.due("on one that STANDS", x.setsUp(2), 1);
    CHECK.due("the floor is GONE", x.setsUp(0), 0);
    CHECK.due("it STANDS", x.setsUp(0), -3);
    x.lays();
    x.pulls(0, 9);
    CHECK.due("it is GONE", x.setsUp(0), -3);
    CHECK.due("nobody", x.setsUp(3), -1);
    CHECK.due("nobody", x.setsUp(-1), -1);
    CHECK.dueRefusals("setsUp", x, 2, 0, 2, 0, 0, 0);
    PulledFromUnder floor = Check.told("tt9;f8;");
    floor.lays();
    CHECK.due("on the floor", floor.setsUp(0), 1);
  }

  private static void promise9() {
    PulledFromUnder x = Check.told("tb7;f9;m02;");
    CHECK.due("turn", x.turn(0, 3, 9), 57);
    CHECK.due("kind", x.thing(0, 0), 3);
    CHECK.due("figure", x.thing(0, 1), 9);
    CHECK.due("habit", x.thing(0, 5), 32);
    CHECK.due("air stays", x.thing(0, 4), 2);
    CHECK.due("turn", x.turn(0, 0, 0), 39);
    CHECK.due("it still STANDS", x.thing(0, 3), 0);
    CHECK.due("till a MINUTE goes by", x.minutes(1), 0);
    CHECK.due("nobody", x.turn(1, 6, -1), -1);
    CHECK.due("other", x.turn(0, 6, -1), -2);
    CHECK.due("other", x.turn(0, -1, 10), -2);
    CHECK.due("below", x.turn(0, 5, -1), -4);
    CHECK.due("above", x.turn(0, 0, 10), -6);
    CHECK.due("one that LIES, too", x.turn(0, 4, 8), 0);
    CHECK.dueRefusals("turn", x, 1, 2, 0, 1, 0, 1);
  }

  private static void promise10() {
    PulledFromUnder x = Check.told("tt9;ot30;og60;oc21;op52;f9;");
    int[][] want = {{3, 5}, {1, 4}, {1, 4}, {1, 2}, {6, 2}, {1, 1}, {15, 1}, {1, 0}, {60, 0}};
    for (int[] row : want) {
      CHECK.due("minutes(" + row[0] + ")", x.minutes(row[0]), row[1]);
    }
    CHECK.due("minute", x.count(1), 89);
    CHECK.due("air of one that LIES stays", x.thing(0, 4), 4);
    PulledFromUnder held = Check.told("tt0;tp9;f9;");
    held.minutes(5);
    held.lays();
    CHECK.due("held", held.minutes(1), 1);
    CHECK.due("air is 0", held.thing(1, 4), 0);
    PulledFromUnder late = new PulledFromUnder();
    CHECK.due("below", late.minutes(0), -4);
    CHECK.due("below", late.minutes(Integer.MIN_VALUE), -4);
    CHECK.due("above", late.minutes(61), -6);
    CHECK.due("above", late.minutes(Integer.MAX_VALUE), -6);
    for (int i = 0; i < 16; i++) {
      CHECK.due("sixty", late.minutes(60), 0);
    }
    CHECK.due("past 999", late.minutes(40), -6);
    CHECK.due("to 999", late.minutes(39), 0);
    CHECK.due("minute", late.count(1), 999);
    CHECK.due("past 999", late.minutes(1), -6);
    CHECK.dueRefusals("minutes", late, 0, 0, 0, 2, 0, 4);
  }

  private static void promise10Watchers() {
    // t0 falls in the first MINUTE; the watchers see it in the next
    PulledFromUnder x = Check.told("tw5;tt0;tw9;tp5;tw0;f9;");
    CHECK.due("w0 has no habit either", x.minutes(1), 3);
    CHECK.due("STAND", x.count(2), 13);
    CHECK.due("the watchers fall", x.minutes(1), 1);
    CHECK.due("LIE", x.count(3), 23);
    PulledFromUnder held = Check.told("tp9;tt9;ow90;f8;");
    CHECK.due("a watcher that is held", held.minutes(1), 2);
    PulledFromUnder gone = Check.told("tw9;tt0;f9;p19;");
    CHECK.due("one that is GONE does not LIE", gone.minutes(12), 1);
    CHECK.due("as a PERSON", gone.minutes(1), 0);
  }
}
