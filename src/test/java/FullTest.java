/** What is full: ten THINGS, 96 letters, 16 in the ROW, MINUTE 999; what is still taken then. */
public final class FullTest {
  private static final Check CHECK = new Check();
  /** A tower of ten. */
  private static final String TOWER = "tt9;oc90;oc91;oc92;oc93;oc94;oc95;oc96;oc97;oc98;";
  /** Ten beside one another. */
  private static final String ROWED = "tt0;tt1;tt2;tt3;tt4;tt5;tt6;tt7;tt8;tt9;";
  private static final String TO_999 =
      "m60;m60;m60;m60;m60;m60;m60;m60;m60;m60;m60;m60;m60;m60;m60;m60;m39;";

  public static void main(String[] args) {
    tenThings();
    tenInATower();
    tenBesideOneAnother();
    tenToSetUp();
    letters();
    row();
    rowAsLongAsThings();
    minute();
    inThoughtMinuteMayPass();
    theImageAtTheEnd();
    CHECK.end();
  }

  private static void tenThings() {
    PulledFromUnder x = Check.told(ROWED);
    CHECK.due("THINGS", x.count(0), 10);
    for (int thing = 0; thing < 10; thing++) {
      CHECK.due("KIND", x.thing(thing, 0), 0);
      CHECK.due("FIGURE", x.thing(thing, 1), thing);
      CHECK.due("ON", x.thing(thing, 2), -9);
    }
    CHECK.due("an eleventh", Check.tell(x, "tt0;"), -2000);
    CHECK.due("an eleventh", Check.tell(x, "ot09;"), -2000);
    CHECK.due("THINGS", x.count(0), 10);
    CHECK.due("all STAND", x.count(2), 1023);
    CHECK.due("nobody", x.thing(10, 0), -1);
    CHECK.due("the last is turned", x.turn(9, 5, 0), 9);
    CHECK.due("the last is GONE", x.pulls(9, 9), 0);
    CHECK.due("GONE", x.count(4), 512);
    CHECK.due("one GONE makes no room", Check.tell(x, "tt0;"), -2000);
  }

  private static void tenInATower() {
    PulledFromUnder x = Check.told(TOWER);
    CHECK.due("HEIGHT of the first", x.tower(0, 0), 0);
    CHECK.due("HEIGHT of the last", x.tower(9, 0), 9);
    CHECK.due("ABOVE the first", x.tower(0, 1), 1022);
    CHECK.due("ABOVE the last but one", x.tower(8, 1), 512);
    CHECK.due("ABOVE the last", x.tower(9, 1), 0);
    CHECK.due("BOTTOM of the last", x.tower(9, 2), 0);
    CHECK.due("BOTTOM of the first", x.tower(0, 2), 0);
    CHECK.due("the FLOOR has one ON it", x.floorFalls(0), 1);
    CHECK.due("it LIES", x.floor(0), 1);
    CHECK.due("the FLOOR is GONE", x.rebuild(1), 0);
    CHECK.due("lays", x.lays(), 0);
    CHECK.due("one can be set up", x.rebuild(1), 1);
    CHECK.due("STAND behind 32", x.behind(1, 32, 2), 9);
    CHECK.due("behind 33 the first on it falls", x.behind(1, 33, 2), 8);
    CHECK.due("pullMost: all but the told one", x.pullMost(9, 0, 0), 8);
    CHECK.due("which", x.pullMost(9, 0, 1), 510);
  }

  private static void tenBesideOneAnother() {
    PulledFromUnder x = Check.told(ROWED);
    CHECK.due("all at once", x.floorFalls(0), 9);
    CHECK.due("nine can be PULLED", x.pullMost(0, 30, 0), 9);
    CHECK.due("which", x.pullMost(0, 30, 1), 1022);
    CHECK.due("nine can be PULLED", x.pullMost(9, 30, 0), 9);
    CHECK.due("which", x.pullMost(9, 30, 1), 511);
    CHECK.due("order of the last three", x.order(9, 8, 7, 0, 1), 7);
    CHECK.due("order", x.order(9, 8, 7, 0, 0), 12);
    CHECK.due("two", x.two(9, 8, 99), 1);
    CHECK.due("LIE at once", x.floor(0), 9);
    CHECK.due("one with GRIP 0 STANDS", x.count(2), 1);
    CHECK.due("LIE", x.count(3), 1022);
    CHECK.due("prop", x.prop(1), 1);
  }

  private static void tenToSetUp() {
    PulledFromUnder x = Check.told("tb0;tb0;tb0;tb0;tb0;tb0;tb0;tb0;tb0;tb0;f9;");
    CHECK.due("all LIE", x.count(3), 1023);
    CHECK.due("none", x.rebuild(1), 0);
    x.lays();
    CHECK.due("all ten", x.rebuild(1), 10);
    for (int thing = 0; thing < 10; thing++) {
      CHECK.due("the least", x.rebuild(0), thing);
      CHECK.due("how many", x.rebuild(1), 10 - thing);
      CHECK.due("HELD", x.setsUp(thing), 1);
    }
    CHECK.due("none is left", x.rebuild(0), -9);
    CHECK.due("none is left", x.rebuild(1), 0);
  }

  private static void letters() {
    PulledFromUnder x = new PulledFromUnder();
    for (int i = 1; i <= 95; i++) {
      CHECK.due("letter", x.letter("f;".charAt(i % 2)), i);
    }
    CHECK.due("below", x.letter(-1), -4);
    CHECK.due("above", x.letter(256), -6);
    CHECK.due("letters", x.count(7), 95);
    CHECK.due("the 96th", x.letter(255), 96);
    CHECK.due("the 97th", x.letter(0), -6);
    CHECK.due("the 97th", x.letter(255), -6);
    CHECK.due("below", x.letter(-1), -4);
    CHECK.due("above", x.letter(256), -6);
    CHECK.due("letters", x.count(7), 96);
    CHECK.dueRefusals("letter", x, 0, 0, 0, 2, 0, 4);
    CHECK.due("room", x.room(), -1000);
    CHECK.due("no letters", x.count(7), 0);
    CHECK.due("the first", x.letter(0), 1);
  }

  private static void row() {
    PulledFromUnder x = new PulledFromUnder();
    for (int i = 1; i <= 15; i++) {
      CHECK.due("row", x.row(0), i);
    }
    CHECK.due("below", x.row(-1), -4);
    CHECK.due("above", x.row(100), -6);
    CHECK.due("in the ROW", x.count(6), 15);
    CHECK.due("the 16th", x.row(99), 16);
    CHECK.due("the 17th", x.row(0), -6);
    CHECK.due("the 17th", x.row(99), -6);
    CHECK.due("below", x.row(-1), -4);
    CHECK.due("above", x.row(100), -6);
    CHECK.due("in the ROW", x.count(6), 16);
    CHECK.dueRefusals("row", x, 0, 0, 0, 2, 0, 4);
    CHECK.due("the 16th is not so", x.judge(), 15);
    CHECK.due("none is left", x.count(6), 0);
    for (int i = 1; i <= 16; i++) {
      CHECK.due("row", x.row(0), i);
    }
    CHECK.due("all is so", x.judge(), -9);
    CHECK.due("none is left", x.count(6), 0);
    for (int i = 1; i <= 16; i++) {
      x.row(i);
    }
    CHECK.due("clear", x.clear(), 16);
    CHECK.due("clear", x.clear(), 0);
    CHECK.due("row", x.row(0), 1);
  }

  private static void rowAsLongAsThings() {
    PulledFromUnder x = Check.told(ROWED);
    for (int i = 1; i <= 16; i++) {
      x.row(99);
      CHECK.due("KINDS by " + i, x.whatWas(9, 0), i == 10 ? 63 : -3);
      CHECK.due("FIGURES by " + i, x.whatWas(0, 1), i == 10 ? 1023 : -3);
    }
    CHECK.dueRefusals("whatWas", x, 0, 0, 30, 0, 0, 0);
    x.clear();
    for (int i = 1; i <= 10; i++) {
      x.row(i == 10 ? 98 : 99);
    }
    CHECK.due("the last is not so", x.whatWas(0, 0), 0);
  }

  private static void minute() {
    PulledFromUnder x = Check.told("tt9;");
    for (int i = 0; i < 15; i++) {
      x.minutes(60);
    }
    CHECK.due("to 939", x.minutes(39), 1);
    PulledFromUnder y = Check.told("tt9;");
    for (int i = 0; i < 16; i++) {
      y.minutes(i == 0 ? 40 : 60);
    }
    CHECK.due("MINUTE", x.count(1), 939);
    CHECK.due("MINUTE", y.count(1), 940);
    CHECK.due("past 999", y.minutes(60), -6);
    CHECK.due("MINUTE", y.count(1), 940);
    CHECK.due("to 999", x.minutes(60), 1);
    CHECK.due("to 999", y.minutes(59), 1);
    CHECK.due("MINUTE", x.count(1), 999);
    CHECK.due("MINUTE", y.count(1), 999);
    CHECK.due("past 999", x.minutes(1), -6);
    CHECK.due("past 999", x.minutes(60), -6);
    CHECK.due("above 60", x.minutes(61), -6);
    CHECK.due("below 1", x.minutes(0), -4);
    CHECK.dueRefusals("minutes", x, 0, 0, 0, 1, 0, 3);
    CHECK.due("image", x.image(), 999);
    CHECK.due("on", x.on(), 999);
  }

  /** What is asked answers the same at MINUTE 999 as at MINUTE 0. */
  private static void inThoughtMinuteMayPass() {
    String text = "tt9;oc30;og60;oc21;op52;tw5;ob45;f8;h0;h5;";
    PulledFromUnder early = Check.told(text);
    PulledFromUnder late = Check.told(TO_999, text);
    CHECK.due("MINUTE", late.count(1), 999);
    for (int n = 0; n <= 99; n += 3) {
      CHECK.due("behind", late.behind(3, n, 0), early.behind(3, n, 0));
      CHECK.due("behind", late.behind(3, n, 2), early.behind(3, n, 2));
      CHECK.due("later", late.later(2, 9, n), early.later(2, 9, n));
      CHECK.due("key", late.key(n), early.key(n));
      CHECK.due("prop", late.prop(n), early.prop(n));
      CHECK.due("two", late.two(5, 0, n), early.two(5, 0, n));
    }
    for (int thing = 0; thing < 7; thing++) {
      CHECK.due("falls", late.falls(thing), early.falls(thing));
      CHECK.due("pullMost", late.pullMost(thing, 30, 1), early.pullMost(thing, 30, 1));
      CHECK.due("draught", late.draught(thing, 7, 20, 0), early.draught(thing, 7, 20, 0));
    }
    CHECK.due("first", late.first(0), early.first(0));
    CHECK.due("first", late.first(1), early.first(1));
    CHECK.due("allStand", late.allStand(), early.allStand());
    CHECK.due("order", late.order(0, 2, 5, 9, 1), early.order(0, 2, 5, 9, 1));
    CHECK.due("lots", late.lots(20, 1, 0), early.lots(20, 1, 0));
    for (int i = 0; i < 16; i++) {
      late.row(early.behind(0, i, 2));
    }
    CHECK.due("judge", late.judge(), -9);
    for (int thing = 0; thing < 7; thing++) {
      late.row(early.falls(thing));
    }
    CHECK.due("whatWas", late.whatWas(3, 0) & 8, 8);
    CHECK.due("MINUTE", late.count(1), 999);
    CHECK.dueRefusals("in thought", late, 0, 0, 0, 0, 0, 0);
  }

  private static void theImageAtTheEnd() {
    PulledFromUnder x = Check.told(ROWED, TO_999, "f9;");
    CHECK.due("image", x.image(), 999);
    PulledFromUnder y = Check.told("tt0;");
    CHECK.due("image", y.image(), 0);
    Check.tell(y, TO_999);
    CHECK.due("past 999", y.minutes(1), -6);
    CHECK.due("on", y.on(), 0);
    CHECK.due("there is time again", y.minutes(60), 1);
    x.lays();
    CHECK.due("on", x.on(), 999);
    CHECK.due("the FLOOR", x.count(5), 0);
    CHECK.due("THINGS", x.count(0), 10);
    CHECK.due("STAND", x.count(2), 1023);
  }
}
