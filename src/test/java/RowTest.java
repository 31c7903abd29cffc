/** Promises 28 to 31: the ROW, what a THING was by it, whether it is right. */
public final class RowTest {
  private static final Check CHECK = new Check();

  public static void main(String[] args) {
    promise28();
    promise28Ninety();
    promise28Refusals();
    promise29();
    promise30();
    promise31();
    CHECK.end();
  }

  private static void fill(PulledFromUnder x, int... numbers) {
    x.clear();
    for (int number : numbers) {
      x.row(number);
    }
  }

  private static void was(PulledFromUnder x, int thing, int kinds, int figures) {
    CHECK.due("whatWas(" + thing + ", 0)", x.whatWas(thing, 0), kinds);
    CHECK.due("whatWas(" + thing + ", 1)", x.whatWas(thing, 1), figures);
  }

  private static void promise28() {
    PulledFromUnder x = Check.told("tt3;f9;");
    fill(x, 2);
    // HABIT 1: t 3 to 5, g 6 to 8, p and w 1
    was(x, 0, 23, 506);
    CHECK.due("the ROW stays", x.count(6), 1);
    fill(x, 33);
    was(x, 0, 8, 512);
    fill(x, 3);
    // HABIT 2: t 6 to 8, g 9, p and w 2, b 0 to 5
    was(x, 0, 55, 1023);
    fill(x, 32);
    was(x, 0, 0, 0);
    fill(x, 0);
    was(x, 0, 0, 0);
    CHECK.due("it is as it was", x.thing(0, 1), 3);
    CHECK.due("it STANDS", x.count(2), 1);
    PulledFromUnder two = Check.told("tt3;ot00;f9;");
    fill(two, 2, 3);
    was(two, 0, 23, 506);
    // 1 has no HABIT: t 0 to 2, g 0 to 5, p 0, or a watcher that sees 0 fall
    was(two, 1, 23, 1023);
    fill(two, 3, 5);
    was(two, 0, 0, 0);
    fill(two, 2, 4);
    was(two, 0, 0, 0);
    was(two, 1, 7, 506);
    PulledFromUnder lies = Check.told("tt9;tt9;f0;");
    fill(lies, 0, 0);
    was(lies, 1, 63, 1023);
  }

  private static void promise28Ninety() {
    PulledFromUnder held = Check.told("tt0;");
    fill(held, 99);
    was(held, 0, 63, 1023);
    fill(held, 98);
    was(held, 0, 0, 0);
    PulledFromUnder gone = Check.told("tt0;p00;");
    fill(gone, 99);
    was(gone, 0, 63, 1023);
    PulledFromUnder tower = Check.told("tc9;oc90;oc91;f9;");
    fill(tower, 33, 66, 99);
    was(tower, 2, 8, 512);
    was(tower, 0, 8, 512);
    fill(tower, 33, 66, 97);
    was(tower, 2, 8, 256);
  }

  private static void promise28Refusals() {
    PulledFromUnder x = Check.told("tt3;tt3;");
    fill(x, 99);
    CHECK.due("nobody", x.whatWas(2, 2), -1);
    CHECK.due("nobody", x.whatWas(-1, 0), -1);
    CHECK.due("other", x.whatWas(0, 2), -2);
    CHECK.due("other", x.whatWas(0, -1), -2);
    CHECK.due("fewer", x.whatWas(0, 0), -3);
    x.row(99);
    CHECK.due("as many", x.whatWas(0, 0), 63);
    x.row(99);
    CHECK.due("more", x.whatWas(1, 1), -3);
    CHECK.dueRefusals("whatWas", x, 2, 2, 2, 0, 0, 0);
  }

  private static void promise29() {
    PulledFromUnder x = new PulledFromUnder();
    CHECK.due("below", x.row(-1), -4);
    CHECK.due("above", x.row(100), -6);
    for (int i = 1; i <= 16; i++) {
      CHECK.due("row", x.row(i == 1 ? 0 : 99), i);
    }
    CHECK.due("no room", x.row(0), -6);
    CHECK.due("below goes first", x.row(-1), -4);
    CHECK.due("in the ROW", x.count(6), 16);
    CHECK.dueRefusals("row", x, 0, 0, 0, 2, 0, 2);
  }

  private static void judged(int want, int... numbers) {
    PulledFromUnder x = Check.told("tt9;ot30;og60;oc21;op52;f9;");
    fill(x, numbers);
    CHECK.due("judge", x.judge(), want);
    CHECK.due("the ROW has none", x.count(6), 0);
    CHECK.due("nothing has changed", x.count(2), 31);
    CHECK.due("judge none", x.judge(), -9);
  }

  private static void promise30() {
    judged(-9, 5, 5, 5, 5, 4, 4, 2, 2, 2, 2, 2, 2, 2, 1, 1, 1);
    judged(15, 5, 5, 5, 5, 4, 4, 2, 2, 2, 2, 2, 2, 2, 1, 1, 0);
    judged(6, 5, 5, 5, 5, 4, 4, 3, 2, 2, 3);
    judged(0, 4, 5, 5, 5, 4);
    judged(3, 5, 5, 5, 4);
    judged(-9);
    PulledFromUnder none = new PulledFromUnder();
    fill(none, 0, 0, 1);
    CHECK.due("judge", none.judge(), 2);
  }

  private static void promise31() {
    PulledFromUnder x = new PulledFromUnder();
    CHECK.due("clear", x.clear(), 0);
    x.row(5);
    x.row(6);
    CHECK.due("clear", x.clear(), 2);
    CHECK.due("in the ROW", x.count(6), 0);
    CHECK.due("a new one", x.row(0), 1);
    CHECK.due("judge", x.judge(), -9);
  }
}
