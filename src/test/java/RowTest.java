/** Promises 28 to 31: the ROW, what a THING was by it, whether it is right. */
public final class RowTest {
  private static final Check CHECK = new Check();

  public static void main(String[] args) {
    promise28();
    promise28OtherKinds();
    promise28Many();
    promise28Ninety();
    promise28Refusals();
    promise29();
    promise30();
    promise31();
    CHECK.end();
  }

  private static void fill(PulledFromUnder x, int... numbers) {
    x.clear();
    for (int number : numbers) {
      x.row(number);
    }
  }

  private static void was(PulledFromUnder x, int thing, int kinds, int figures) {
    CHECK.due("whatWas(" + thing + ", 0)", x.whatWas(thing, 0), kinds);
    CHECK.due("whatWas(" + thing + ", 1)", x.whatWas(thing, 1), figures);
  }

  /** The KIND alone is another (the FIGURE stays), or the FIGURE alone is another. */
  private static void promise28() {
    PulledFromUnder x = Check.told("tt3;f9;");
    // with FIGURE 3 it LIES behind: t 2, g 1, p 5, c 25, w 5, b 3
    // as a t: FIGURES 0 to 2 behind 1, 3 to 5 behind 2, 6 to 8 behind 3, 9 behind 4
    wasBy(x, 0, 0, 0);
    wasBy(x, 1, 2, 7);
    wasBy(x, 2, 1, 56);
    wasBy(x, 3, 32, 448);
    wasBy(x, 4, 0, 512);
    wasBy(x, 5, 20, 0);
    wasBy(x, 25, 8, 0);
    wasBy(x, 33, 0, 0);
    wasBy(x, 99, 0, 0);
    CHECK.due("the ROW stays", x.count(6), 1);
    CHECK.due("its KIND is as it was", x.thing(0, 0), 0);
    CHECK.due("its FIGURE is as it was", x.thing(0, 1), 3);
    CHECK.due("it STANDS", x.count(2), 1);
    PulledFromUnder nine = Check.told("tt9;f9;");
    wasBy(nine, 1, 0, 7);
    wasBy(nine, 4, 1, 512);
  }

  private static void wasBy(PulledFromUnder x, int number, int kinds, int figures) {
    fill(x, number);
    was(x, 0, kinds, figures);
  }

  private static void promise28OtherKinds() {
    PulledFromUnder glass = Check.told("tg6;f9;");
    wasBy(glass, 1, 0, 63);
    wasBy(glass, 2, 2, 448);
    wasBy(glass, 3, 1, 512);
    wasBy(glass, 4, 32, 0);
    PulledFromUnder person = Check.told("tp4;f9;");
    wasBy(person, 2, 1, 2);
    wasBy(person, 6, 20, 16);
    PulledFromUnder council = Check.told("tc9;f9;");
    wasBy(council, 21, 0, 1);
    wasBy(council, 33, 8, 512);
    PulledFromUnder watcher = Check.told("tw4;f9;");
    wasBy(watcher, 6, 20, 16);
    wasBy(watcher, 9, 0, 64);
    PulledFromUnder bride = Check.told("tb5;f9;");
    wasBy(bride, 3, 32, 63);
    wasBy(bride, 5, 0, 512);
    bride.turn(0, 0, 0);
    wasBy(bride, 3, 32, 448);
  }

  /** All of the ROW is to be so, by the one told THING's KIND or FIGURE. */
  private static void promise28Many() {
    PulledFromUnder two = Check.told("tt3;ot00;f9;");
    fill(two, 2, 3);
    was(two, 0, 1, 56);
    // with FIGURE 0, ON one that LIES behind 2: t, g, p and w behind 3 (a watcher sees it), b 5
    was(two, 1, 23, 7);
    fill(two, 3, 5);
    was(two, 0, 0, 0);
    was(two, 1, 0, 0);
    fill(two, 2, 4);
    was(two, 0, 0, 0);
    was(two, 1, 0, 56);
    fill(two, 2, 5);
    was(two, 1, 32, 448);
    PulledFromUnder seen = Check.told("tw9;tt3;f9;");
    fill(seen, 3, 2);
    was(seen, 1, 1, 56);
    // with FIGURE 9 a g LIES behind 3 too; as a w FIGURES 2 to 9, for it sees 1 LIE behind 2
    was(seen, 0, 18, 1020);
    fill(seen, 6, 5);
    was(seen, 1, 20, 0);
    PulledFromUnder lies = Check.told("tt9;tt9;f0;");
    fill(lies, 0, 0);
    was(lies, 1, 63, 1023);
  }

  private static void promise28Ninety() {
    PulledFromUnder held = Check.told("tt0;");
    wasBy(held, 99, 63, 1023);
    wasBy(held, 98, 0, 0);
    PulledFromUnder gone = Check.told("tt0;p00;");
    wasBy(gone, 99, 63, 1023);
    PulledFromUnder tower = Check.told("tc9;oc90;oc91;f9;");
    fill(tower, 33, 66, 99);
    was(tower, 2, 8, 512);
    was(tower, 0, 8, 512);
    fill(tower, 33, 66, 97);
    was(tower, 2, 0, 256);
    was(tower, 0, 0, 0);
  }

  private static void promise28Refusals() {
    PulledFromUnder x = Check.told("tt3;tt3;");
    fill(x, 99);
    CHECK.due("nobody", x.whatWas(2, 2), -1);
    CHECK.due("nobody", x.whatWas(-1, 0), -1);
    CHECK.due("other", x.whatWas(0, 2), -2);
    CHECK.due("other", x.whatWas(0, -1), -2);
    CHECK.due("fewer", x.whatWas(0, 0), -3);
    x.row(99);
    CHECK.due("as many", x.whatWas(0, 0), 63);
    x.row(99);
    CHECK.due("more", x.whatWas(1, 1), -3);
    CHECK.dueRefusals("whatWas", x, 2, 2, 2, 0, 0, 0);
  }

  private static void promise29() {
    PulledFromUnder x = new PulledFromUnder();
    CHECK.due("below", x.row(-1), -4);
    CHECK.due("above", x.row(100), -6);
    for (int i = 1; i <= 16; i++) {
      CHECK.due("row", x.row(i == 1 ? 0 : 99), i);
    }
    CHECK.due("no room", x.row(0), -6);
    CHECK.due("below goes first", x.row(-1), -4);
    CHECK.due("in the ROW", x.count(6), 16);
    CHECK.dueRefusals("row", x, 0, 0, 0, 2, 0, 2);
  }

  private static void judged(int want, int... numbers) {
    PulledFromUnder x = Check.told("tt9;ot30;og60;oc21;op52;f9;");
    fill(x, numbers);
    CHECK.due("judge", x.judge(), want);
    CHECK.due("the ROW has none", x.count(6), 0);
    CHECK.due("nothing has changed", x.count(2), 31);
    CHECK.due("judge none", x.judge(), -9);
  }

  private static void promise30() {
    judged(-9, 5, 5, 5, 5, 4, 4, 2, 2, 2, 2, 2, 2, 2, 1, 1, 1);
    judged(15, 5, 5, 5, 5, 4, 4, 2, 2, 2, 2, 2, 2, 2, 1, 1, 0);
    judged(6, 5, 5, 5, 5, 4, 4, 3, 2, 2, 3);
    judged(0, 4, 5, 5, 5, 4);
    judged(3, 5, 5, 5, 4);
    judged(-9);
    PulledFromUnder none = new PulledFromUnder();
    fill(none, 0, 0, 1);
    CHECK.due("judge", none.judge(), 2);
  }

  private static void promise31() {
    PulledFromUnder x = new PulledFromUnder();
    CHECK.due("clear", x.clear(), 0);
    x.row(5);
    x.row(6);
    CHECK.due("clear", x.clear(), 2);
    CHECK.due("in the ROW", x.count(6), 0);
    CHECK.due("a new one", x.row(0), 1);
    CHECK.due("judge", x.judge(), -9);
  }
}
