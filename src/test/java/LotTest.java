/** Promises 32 to 35: rooms by lot, the image, counts. */
public final class LotTest {
  private static final Check CHECK = new Check();

  public static void main(String[] args) {
    promise32();
    promise32Refusals();
    promise33And34();
    promise35();
    CHECK.end();
  }

  /**
   * From 0 the seed becomes, in hexadecimals, 3C6EF35F, 47502932, D1CCF6E9, AAF95334, 6252E503,
   * 9F2EC686, 57FE6C2D, A3D95FA8, 81FDBEE7, 94F0AF1A: of ten the THINGS 3, 6, 9, 4, 4 are drawn,
   * with the SPEEDS 7, 9, 0, 7, 5.
   */
  private static void promise32() {
    PulledFromUnder x = Check.told("tt9;tt9;tt9;tt9;tt9;tt9;tt9;tt9;tt9;tt9;");
    CHECK.due("STAND", x.lots(1, 0, 0), 6);
    CHECK.due("LIE", x.lots(1, 0, 1), 0);
    // 5 is caught, 7 falls in the third MINUTE, 8 in the fifth
    PulledFromUnder y = Check.told("tt0;tt0;tt0;tt0;tt0;ot93;tt0;ot73;ot96;tt0;");
    CHECK.due("STAND", y.lots(1, 0, 0), 3);
    CHECK.due("LIE", y.lots(1, 0, 1), 3);
    // 5 and 8 are caught, 7 stands on nothing for two MINUTES
    PulledFromUnder w = Check.told("tt0;tt0;tt0;tt0;tt0;ot93;tt0;ot74;ot84;tt0;");
    CHECK.due("STAND", w.lots(1, 0, 0), 4);
    CHECK.due("LIE", w.lots(1, 0, 1), 2);
    // 5 (grip 2, habit 5) is on 3 now and stands on nothing all five
    PulledFromUnder v = Check.told("tt0;tt0;tt0;tt0;tt0;op43;tt0;ot74;ot84;tt0;");
    CHECK.due("STAND", v.lots(1, 0, 0), 5);
    CHECK.due("LIE", v.lots(1, 0, 1), 1);
    int first = y.lots(1, 0, 0);
    int second = y.lots(1, 0x94F0AF1A, 0);
    CHECK.due("the seed goes on", y.lots(2, 0, 0), first + second);
    CHECK.due("nothing has changed", y.count(2), 1023);
    CHECK.due("no minute", y.count(1), 0);
    PulledFromUnder one = Check.told("tt9;");
    CHECK.due("it is always GONE", one.lots(20, -1, 0), 0);
    CHECK.due("it is always GONE", one.lots(20, -1, 1), 0);
    CHECK.due("it LIES", Check.told("tt9;f0;").lots(20, 77, 1), 20);
  }

  private static void promise32Refusals() {
    PulledFromUnder x = new PulledFromUnder();
    CHECK.due("below", x.lots(0, 0, 2), -4);
    CHECK.due("above", x.lots(21, 0, 2), -6);
    CHECK.due("other", x.lots(1, 0, 2), -2);
    CHECK.due("other", x.lots(20, 0, -1), -2);
    CHECK.due("no THINGS", x.lots(1, 0, 1), -3);
    CHECK.dueRefusals("lots", x, 0, 2, 1, 1, 0, 1);
  }

  private static void promise33And34() {
    PulledFromUnder x = Check.told("tp9;ot50;m03;");
    CHECK.due("none", x.on(), -3);
    CHECK.due("image", x.image(), 3);
    x.row(7);
    CHECK.due("more of a room", Check.tell(x, "f9;m05;ot01;p14;p04;"), 5);
    x.turn(0, 1, 3);
    x.letter('f');
    CHECK.due("things", x.count(0), 3);
    CHECK.due("minute", x.count(1), 8);
    CHECK.due("gone", x.count(4), 3);
    for (int time = 0; time < 2; time++) {
      CHECK.due("on", x.on(), 3);
      int[] want = {2, 3, 3, 0, 0, 1, 1, 1};
      for (int what = 0; what < want.length; what++) {
        CHECK.due("on count(" + what + ")", x.count(what), want[what]);
      }
      CHECK.due("kind", x.thing(0, 0), 2);
      CHECK.due("figure", x.thing(0, 1), 9);
      CHECK.due("air", x.thing(0, 4), 0);
      CHECK.due("later changes are not the image's", x.pulls(0, 9), 0);
    }
    CHECK.dueRefusals("refusals stay", x, 0, 0, 1, 0, 0, 0);
    x.minutes(4);
    CHECK.due("a new image", x.image(), 7);
    x.minutes(4);
    CHECK.due("on", x.on(), 7);
    CHECK.due("gone", x.count(4), 1);
  }

  private static void promise35() {
    PulledFromUnder x = Check.told("tt9;ot90;ot91;tp9;p08;m01;f9;m01;");
    x.row(1);
    x.row(2);
    x.letter('m');
    int[] want = {4, 2, 12, 2, 1, 0, 2, 1};
    for (int what = 0; what < want.length; what++) {
      CHECK.due("count(" + what + ")", x.count(what), want[what]);
    }
    x.falls(9);
    x.first(2);
    x.first(2);
    x.on();
    x.on();
    x.on();
    for (int i = 0; i < 4; i++) {
      x.key(-1);
    }
    for (int i = 0; i < 5; i++) {
      x.key(100);
    }
    CHECK.dueRefusals("count", x, 1, 2, 3, 4, 0, 5);
    int[] other = {-1, 8, 9, 10, 17, Integer.MIN_VALUE, Integer.MAX_VALUE};
    for (int what : other) {
      CHECK.due("count(" + what + ")", x.count(what), -9);
    }
    CHECK.dueRefusals("another what is not counted:", x, 1, 2, 3, 4, 0, 5);
  }
}
