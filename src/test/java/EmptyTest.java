/** What each call answers where there is nothing: no THINGS, none that STANDS, none that LIES. */
public final class EmptyTest {
  private static final Check CHECK = new Check();
  private static final long OF_LONGS = 4000000000000000000L;

  public static void main(String[] args) {
    counts();
    eachThingIsNobody();
    noThings();
    noThingsAndNoFloor();
    allLie();
    allGone();
    noneFalls();
    noLetters();
    noRow();
    noImage();
    anEmptyImage();
    CHECK.end();
  }

  private static void counts() {
    PulledFromUnder x = new PulledFromUnder();
    for (int what = -1; what <= 18; what++) {
      boolean isCount = what >= 0 && what <= 7 || what >= 11 && what <= 16;
      CHECK.due("count(" + what + ")", x.count(what), what == 5 ? 1 : isCount ? 0 : -9);
    }
  }

  private static void eachThingIsNobody() {
    PulledFromUnder x = new PulledFromUnder();
    for (int thing = -1; thing <= 10; thing++) {
      CHECK.due("thing", x.thing(thing, 0), -1);
      CHECK.due("pulls", x.pulls(thing, 0), -1);
      CHECK.due("setsUp", x.setsUp(thing), -1);
      CHECK.due("turn", x.turn(thing, 0, 0), -1);
      CHECK.due("behind", x.behind(thing, 0, 2), -1);
      CHECK.due("falls", x.falls(thing), -1);
      CHECK.due("tower", x.tower(thing, 0), -1);
      CHECK.due("leastSpeed", x.leastSpeed(thing), -1);
      CHECK.due("atOnce", x.atOnce(thing, 0), -1);
      CHECK.due("later", x.later(thing, 0, 0), -1);
      CHECK.due("pullMost", x.pullMost(thing, 0, 0), -1);
      CHECK.due("order", x.order(thing, thing + 1, thing + 2, 0, 0), -1);
      CHECK.due("draught", x.draught(thing, 0, 2, 0), OF_LONGS + 1);
      CHECK.due("two", x.two(thing, thing + 1, 0), -1);
      CHECK.due("whatWas", x.whatWas(thing, 0), -1);
    }
    CHECK.dueRefusals("nobody", x, 180, 0, 0, 0, 0, 0);
  }

  private static void noThings() {
    PulledFromUnder x = new PulledFromUnder();
    noneStands(x);
    for (int speed = 0; speed <= 9; speed++) {
      CHECK.due("floorFalls", x.floorFalls(speed), 0);
    }
    CHECK.due("lots", x.lots(1, 0, 0), -3);
    CHECK.due("lots", x.lots(20, 0, 1), -3);
    CHECK.due("minutes", x.minutes(1), 0);
    CHECK.due("minutes", x.minutes(60), 0);
    CHECK.due("MINUTE", x.count(1), 61);
    CHECK.due("floor", x.floor(0), 0);
    CHECK.due("lays", x.lays(), 0);
    CHECK.due("floor", x.floor(9), 0);
    CHECK.dueRefusals("no THINGS", x, 0, 0, 2, 0, 0, 0);
  }

  private static void noThingsAndNoFloor() {
    PulledFromUnder x = Check.told("f0;");
    noneStands(x);
    CHECK.due("floorFalls", x.floorFalls(0), -9);
    CHECK.due("floor", x.floor(0), -3);
    CHECK.due("minutes", x.minutes(60), 0);
    CHECK.due("lays", x.lays(), 0);
    CHECK.due("lays", x.lays(), -3);
  }

  /** What is asked of all of them together, where none STANDS and none could be set up. */
  private static void noneStands(PulledFromUnder x) {
    CHECK.due("which falls first", x.first(0), -9);
    CHECK.due("when", x.first(1), -9);
    CHECK.due("allStand", x.allStand(), 99);
    for (int n : new int[] {0, 1, 98, 99}) {
      CHECK.due("key", x.key(n), -9);
      CHECK.due("prop", x.prop(n), 0);
    }
    CHECK.due("no WATCHERS", x.watched(0), 0);
    CHECK.due("all that STAND are HELD", x.watched(1), 1);
    CHECK.due("the least to set up", x.rebuild(0), -9);
    CHECK.due("how many", x.rebuild(1), 0);
  }

  private static void allLie() {
    PulledFromUnder x = Check.told("tw9;ob00;ot90;p00;", "f0;");
    CHECK.due("0 is GONE", x.count(4), 1);
    CHECK.due("all else LIE", x.count(3), 6);
    noneStands(x);
    noneCanBeAsked(x, 1);
    noneCanBeAsked(x, 2);
    CHECK.due("LIES now", x.falls(1), 0);
    CHECK.due("LIES now", x.behind(1, 0, 0), 1);
    CHECK.due("LIES then", x.behind(1, 99, 0), 1);
    CHECK.due("it can be set up", x.setsUp(1), 0);
  }

  private static void noneCanBeAsked(PulledFromUnder x, int thing) {
    CHECK.due("pulls", x.pulls(thing, 0), -3);
    CHECK.due("leastSpeed", x.leastSpeed(thing), -3);
    CHECK.due("atOnce", x.atOnce(thing, 9), -3);
    CHECK.due("later", x.later(thing, 9, 0), -3);
    CHECK.due("pullMost, many", x.pullMost(thing, 0, 0), -9);
    CHECK.due("pullMost, which", x.pullMost(thing, 30, 1), -9);
    CHECK.due("all are passed over", x.order(0, 1, 2, 0, 0), 12);
    CHECK.due("none STANDS", x.order(0, 1, 2, 0, 1), 0);
    CHECK.due("all are passed over", x.two(thing, thing == 0 ? 1 : 0, 99), 0);
    CHECK.due("above the line", x.draught(thing, 7, 20, 0), 0);
    CHECK.due("below the line", x.draught(thing, 7, 20, 1), 1);
    CHECK.due("above the line", x.draught(thing, 0, 2, 0), 0);
    CHECK.due("below the line", x.draught(thing, 0, 2, 1), 1);
    CHECK.due("how many STAND", x.lots(20, 5, 0), 0);
    CHECK.due("it is not HELD", x.thing(thing, 7), 0);
    CHECK.due("none STANDS", x.behind(thing, 0, 2), 0);
  }

  private static void allGone() {
    PulledFromUnder x = Check.told("tt0;tt0;tt0;p00;p10;p20;");
    CHECK.due("all are GONE", x.count(4), 7);
    noneStands(x);
    for (int thing = 0; thing < 3; thing++) {
      noneCanBeAsked(x, thing);
      CHECK.due("never LIES", x.falls(thing), -9);
      CHECK.due("GONE", x.behind(thing, 99, 0), 2);
      CHECK.due("setsUp", x.setsUp(thing), -3);
      CHECK.due("its KIND is another all the same", x.turn(thing, 3, 9), 0);
      CHECK.due("HABIT", x.thing(thing, 5), 32);
    }
    CHECK.due("none LIES", x.lots(20, 5, 1), 0);
    CHECK.due("floorFalls", x.floorFalls(0), 0);
    CHECK.due("floor", x.floor(0), 0);
    CHECK.due("lays", x.lays(), 0);
  }

  private static void noneFalls() {
    PulledFromUnder x = Check.told("tt0;");
    CHECK.due("which falls first", x.first(0), -9);
    CHECK.due("when", x.first(1), -9);
    CHECK.due("falls", x.falls(0), -9);
    CHECK.due("allStand", x.allStand(), 99);
    CHECK.due("prop", x.prop(99), 0);
    CHECK.due("nothing ON it", x.pulls(0, 0), 0);
    CHECK.due("one that is GONE", x.falls(0), -9);
  }

  private static void noLetters() {
    PulledFromUnder x = new PulledFromUnder();
    CHECK.due("room", x.room(), -1000);
    CHECK.due("room", x.room(), -1000);
    CHECK.dueRefusals("a FAULT is not counted:", x, 0, 0, 0, 0, 0, 0);
  }

  private static void noRow() {
    PulledFromUnder x = new PulledFromUnder();
    CHECK.due("clear", x.clear(), 0);
    CHECK.due("judge", x.judge(), -9);
    CHECK.due("as many as THINGS, but nobody", x.whatWas(0, 0), -1);
    CHECK.due("row", x.row(0), 1);
    CHECK.due("0 STAND", x.judge(), -9);
    CHECK.due("the ROW has none", x.count(6), 0);
    CHECK.due("row", x.row(1), 1);
    CHECK.due("1 does not STAND", x.judge(), 0);
    CHECK.due("the ROW has none", x.count(6), 0);
    PulledFromUnder one = Check.told("tt0;");
    CHECK.due("fewer than THINGS", one.whatWas(0, 0), -3);
    CHECK.due("judge", one.judge(), -9);
  }

  private static void noImage() {
    PulledFromUnder x = Check.told("tt0;");
    CHECK.due("on", x.on(), -3);
    CHECK.due("on", x.on(), -3);
    CHECK.due("nothing has changed", x.count(0), 1);
    CHECK.dueRefusals("on", x, 0, 0, 2, 0, 0, 0);
    CHECK.due("image", x.image(), 0);
    CHECK.due("on", x.on(), 0);
  }

  private static void anEmptyImage() {
    PulledFromUnder x = new PulledFromUnder();
    CHECK.due("image", x.image(), 0);
    CHECK.due("ten", Check.tell(x, "tt0;tt0;tt0;tt0;tt0;tt0;tt0;tt0;tt0;ot00;p00;f0;m60;"), 13);
    CHECK.due("on", x.on(), 0);
    int[] want = {0, 0, 0, 0, 0, 1, 0, 0};
    for (int what = 0; what < want.length; what++) {
      CHECK.due("count(" + what + ")", x.count(what), want[what]);
    }
    CHECK.due("nobody", x.thing(0, 0), -1);
    CHECK.due("there is place for ten again",
        Check.tell(x, "tb9;tt0;tt0;tt0;tt0;tt0;tt0;tt0;tt0;tt0;"), 10);
    CHECK.due("AIR is 0 at first", x.thing(9, 4), 0);
    CHECK.due("KIND", x.thing(0, 0), 5);
    CHECK.due("ON", x.thing(9, 2), -9);
    CHECK.due("all STAND", x.count(2), 1023);
  }
}
