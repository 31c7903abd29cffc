/** Promises 24 to 26: who sees it, what can be set up again, a draught by odds. */
public final class SeenTest {
  private static final Check CHECK = new Check();
  private static final long REFUSED = 4000000000000000000L;

  public static void main(String[] args) {
    promise24();
    promise25();
    promise26();
    promise26Refusals();
    CHECK.end();
  }

  private static void promise24() {
    PulledFromUnder x = Check.told("tw5;tt0;tw1;tp9;");
    CHECK.due("nobody LIES", x.watched(0), 0);
    CHECK.due("all are held", x.watched(1), 1);
    x.floor(9);
    CHECK.due("nobody LIES", x.watched(0), 0);
    CHECK.due("none is held", x.watched(1), 0);
    x.minutes(1);
    CHECK.due("1 LIES", x.watched(0), 2);
    x.minutes(1);
    CHECK.due("the watchers LIE", x.watched(0), 0);
    CHECK.due("3 is not held", x.watched(1), 0);
    x.lays();
    CHECK.due("it is held", x.watched(1), 1);
    CHECK.due("other", x.watched(2), -2);
    CHECK.due("other", x.watched(-1), -2);
    CHECK.dueRefusals("watched", x, 0, 2, 0, 0, 0, 0);
    CHECK.due("none STANDS", Check.told("tt9;f0;").watched(1), 1);
    CHECK.due("0 is not held", Check.told("tp9;ot00;f9;").watched(1), 0);
    CHECK.due("2 is not held", Check.told("tt9;tt9;ot01;p19;").watched(1), 0);
    CHECK.due("GONE is not LIES", Check.told("tw9;tt0;p19;").watched(0), 0);
  }

  private static void promise25() {
    PulledFromUnder x = Check.told("tt5;ot50;ot51;f0;m09;");
    CHECK.due("all LIE", x.count(3), 7);
    CHECK.due("the floor is GONE", x.rebuild(0), -9);
    CHECK.due("how many", x.rebuild(1), 0);
    CHECK.due("lays", x.lays(), 0);
    CHECK.due("the least", x.rebuild(0), 0);
    CHECK.due("one behind the other", x.rebuild(1), 3);
    CHECK.due("nothing has changed", x.count(3), 7);
    x.setsUp(0);
    CHECK.due("the least", x.rebuild(0), 1);
    CHECK.due("how many", x.rebuild(1), 2);
    x.pulls(0, 9);
    CHECK.due("on one that is GONE", x.rebuild(0), -9);
    CHECK.due("how many", x.rebuild(1), 0);
    CHECK.due("other", x.rebuild(2), -2);
    CHECK.due("other", x.rebuild(-1), -2);
    CHECK.dueRefusals("rebuild", x, 0, 2, 0, 0, 0, 0);
    // 1 LIES on 0 that is GONE, 3 on 2 that STANDS again
    PulledFromUnder two = Check.told("tt9;ot90;tt9;ot92;p00;f8;m04;h2;");
    CHECK.due("1 and 3 LIE", two.count(3), 10);
    CHECK.due("not the least that LIES", two.rebuild(0), 3);
    CHECK.due("how many", two.rebuild(1), 1);
    PulledFromUnder ten = Check.told("tt9;tt9;tt9;tt9;tt9;tt9;tt9;tt9;tt9;tt9;f0;");
    ten.lays();
    CHECK.due("all ten", ten.rebuild(1), 10);
  }

  private static void odds(String text, int n, int t, long above, long below) {
    PulledFromUnder x = Check.told(text);
    String call = "\"" + text + "\" draught(0, " + n + ", " + t + ", ";
    CHECK.due(call + "0)", x.draught(0, n, t, 0), above);
    CHECK.due(call + "1)", x.draught(0, n, t, 1), below);
    CHECK.due("nothing has changed", x.count(1), 0);
  }

  private static void promise26() {
    odds("tt3;f9;", 0, 2, 1, 1);
    odds("tt3;f9;", 1, 2, 1, 2);
    odds("tt3;f9;", 1, 20, 19, 20);
    odds("tt3;f9;", 2, 2, 0, 1);
    odds("tt9;f9;", 1, 20, 1, 1);
    odds("tt9;f9;", 2, 2, 3, 4);
    odds("tt9;f9;", 2, 4, 15, 16);
    odds("tt9;f9;", 3, 3, 8, 27);
    odds("tt9;f9;", 3, 20, 6859, 8000);
    odds("tt9;f9;", 4, 20, 0, 1);
    odds("tp9;f9;", 7, 2, 15, 16);
    odds("tp9;f9;", 7, 20, 639999933, 640000000);
    odds("tt0;", 7, 20, 1, 1);
    odds("tt9;f0;", 7, 20, 0, 1);
    odds("tt9;p09;", 0, 20, 0, 1);
    // 1 falls in the first MINUTE, the watcher in the second; 2, on 0, is held till then
    odds("tw9;tt0;ot00;f9;", 1, 2, 1, 1);
    odds("tw9;tt0;ot00;f9;", 2, 2, 0, 1);
    // the watcher sees 1, of habit 1, fall: in the first MINUTE by a draught, else in the second
    odds("tw9;tt3;f9;", 2, 3, 2, 3);
    odds("tw9;tt3;f9;", 3, 3, 0, 1);
  }

  private static void promise26Refusals() {
    PulledFromUnder x = Check.told("tt0;");
    CHECK.due("nobody", x.draught(1, -1, 1, 2), REFUSED + 1);
    CHECK.due("nobody", x.draught(-1, 0, 2, 0), REFUSED + 1);
    CHECK.due("n below", x.draught(0, -1, 21, 2), REFUSED + 4);
    CHECK.due("t below", x.draught(0, 8, 1, 2), REFUSED + 4);
    CHECK.due("n above", x.draught(0, 8, 2, 2), REFUSED + 6);
    CHECK.due("t above", x.draught(0, 0, 21, 2), REFUSED + 6);
    CHECK.due("other", x.draught(0, 7, 20, 2), REFUSED + 2);
    CHECK.due("other", x.draught(0, 0, 2, -1), REFUSED + 2);
    CHECK.dueRefusals("draught", x, 2, 2, 0, 2, 0, 2);
  }
}
