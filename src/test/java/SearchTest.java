/** Promises 19 to 22 and 27: the most, the fewest, the best order, two who pull. */
public final class SearchTest {
  private static final Check CHECK = new Check();
  /** 0 is GONE; 1, a watcher, and 2, that falls in the first MINUTE, stand on nothing. */
  private static final String SEEN = "tt0;ow90;ot00;p09;";

  public static void main(String[] args) {
    promise19();
    promise19Refusals();
    promise20();
    promise21();
    promise22();
    promise22Refusals();
    promise27();
    CHECK.end();
  }

  private static void most(String text, int thing, int n, int many, int which) {
    PulledFromUnder x = Check.told(text);
    int stand = x.count(2);
    String call = "\"" + text + "\" pullMost(" + thing + ", " + n + ", ";
    CHECK.due(call + "0)", x.pullMost(thing, n, 0), many);
    CHECK.due(call + "1)", x.pullMost(thing, n, 1), which);
    CHECK.due("nothing has changed", x.count(2), stand);
  }

  private static void promise19() {
    most("tt0;op90;tt9;", 1, 0, 2, 5);
    most("tt0;op90;tt9;", 1, 12, 2, 5);
    most("tt0;op90;tt9;", 1, 13, 1, 4);
    most("tt0;op90;tt9;", 1, 30, 1, 4);
    // SPEED 9 is enough for a GRIP of 9
    most("tt0;ot90;", 1, 3, 1, 1);
    // a bride of 0 is caught by any pull
    most("tt9;ob00;", 1, 0, 0, 0);
    most("tt9;ob00;", 0, 30, 1, 2);
    // with 0 PULLED, 1 LIES and can't be; of one each the least
    most("tt9;ob00;tt9;", 2, 3, 1, 1);
    // PULLED by numbers, so 0 goes ahead of 1 that is caught
    most("tt9;ob00;ot01;", 2, 0, 1, 1);
    // with none it falls, since it sees 2 fall; with 2 PULLED it does not
    most(SEEN, 1, 1, 1, 4);
    most(SEEN, 1, 5, 1, 4);
    most(SEEN, 1, 13, -9, -9);
    most("tt0;f9;", 0, 0, 0, 0);
    most("tt0;f9;", 0, 1, -9, -9);
    most("tt9;f0;", 0, 0, -9, -9);
    most("tt9;p00;tt0;", 0, 0, -9, -9);
    most("tt9;tt9;tt9;tt9;tt9;tt9;tt9;tt9;tt9;tt9;", 4, 30, 9, 1007);
    most("tt0;tp9;f9;m01;", 1, 0, 0, 0);
  }

  private static void promise19Refusals() {
    PulledFromUnder x = Check.told("tt0;");
    CHECK.due("nobody", x.pullMost(1, -1, 2), -1);
    CHECK.due("nobody", x.pullMost(-1, 0, 0), -1);
    CHECK.due("below", x.pullMost(0, -1, 2), -4);
    CHECK.due("above", x.pullMost(0, 31, 2), -6);
    CHECK.due("other", x.pullMost(0, 30, 2), -2);
    CHECK.due("other", x.pullMost(0, 0, -1), -2);
    CHECK.dueRefusals("pullMost", x, 2, 2, 0, 1, 0, 1);
  }

  private static void promise20() {
    PulledFromUnder x = Check.told("tt5;tt9;ot01;ot01;");
    CHECK.due("of several the least", x.key(0), 0);
    CHECK.due("two fall", x.key(1), 1);
    CHECK.due("two fall", x.key(99), 1);
    CHECK.due("nothing has changed", x.count(2), 15);
    CHECK.due("SPEED 9", Check.told("tt5;ot90;ot91;tt9;ob03;").key(0), 3);
    CHECK.due("2 is the only one that STANDS", Check.told("tt9;tt9;tc0;f8;").key(0), 2);
    CHECK.due("a fall is seen", Check.told("tc9;tt9;ot01;tw9;tw9;f9;").key(2), 1);
    CHECK.due("none STANDS", Check.told("tt9;f0;").key(0), -9);
    CHECK.due("ten", Check.told("tt0;tt0;tt0;tt0;tt0;tt0;tt0;tt0;tt0;tt0;").key(9), 0);
    CHECK.due("below", x.key(-1), -4);
    CHECK.due("above", x.key(100), -6);
    CHECK.dueRefusals("key", x, 0, 0, 0, 1, 0, 1);
  }

  private static void promise21() {
    // 0 falls behind 4 MINUTES, 1 stands on it, 2 falls in the first
    PulledFromUnder x = Check.told("tt9;ot30;tt0;f9;");
    int[][] want = {{0, 0}, {1, 4}, {3, 4}, {4, 5}, {99, 5}};
    for (int[] row : want) {
      CHECK.due("prop(" + row[0] + ")", x.prop(row[0]), row[1]);
    }
    CHECK.due("nothing has changed", x.count(2), 7);
    x.minutes(1);
    CHECK.due("those that LIE are not meant", x.prop(3), 1);
    CHECK.due("prop", x.prop(2), 0);
    CHECK.due("held", Check.told("tt0;ot00;").prop(99), 0);
    CHECK.due("a watcher in the air sees somebody", Check.told("tt9;tw9;ow91;f5;").prop(1), 2);
    CHECK.due("a watcher in the air sees nobody", Check.told("tt3;tw9;ow91;f5;").prop(12), 1);
    PulledFromUnder turned = Check.told("tc9;f9;m20;");
    turned.turn(0, 0, 0);
    CHECK.due("more AIR than HABIT", turned.prop(0), 0);
    CHECK.due("more AIR than HABIT", turned.prop(1), 1);
    CHECK.due("below", x.prop(-1), -4);
    CHECK.due("above", x.prop(100), -6);
    CHECK.dueRefusals("prop", x, 0, 0, 0, 1, 0, 1);
  }

  private static void promise22() {
    // 3 (habit 8, grip 3) stands on 0: with 0 PULLED third it is in the air 8 MINUTES
    PulledFromUnder x = Check.told("tt9;tt9;tt9;op60;");
    CHECK.due("0 last", x.order(0, 1, 2, 9, 0), 120);
    CHECK.due("how many", x.order(0, 1, 2, 9, 1), 1);
    CHECK.due("0 last", x.order(1, 0, 2, 9, 0), 21);
    CHECK.due("0 last", x.order(2, 1, 0, 9, 0), 12);
    CHECK.due("how many", x.order(2, 1, 0, 3, 1), 1);
    CHECK.due("too slow: of several the first", x.order(0, 1, 2, 2, 0), 12);
    CHECK.due("how many", x.order(0, 1, 2, 2, 1), 0);
    CHECK.due("nothing has changed", x.count(2), 15);
    x.turn(3, 2, 5);
    CHECK.due("habit 6 is too little", x.order(0, 1, 2, 9, 1), 0);
    x.turn(3, 2, 7);
    CHECK.due("habit 9: 0 second does, too", x.order(0, 1, 2, 9, 0), 102);
    x.turn(3, 2, 8);
    CHECK.due("habit 10: any order", x.order(0, 1, 2, 9, 0), 12);
    x.turn(3, 2, 6);
    x.pulls(1, 9);
    CHECK.due("a MINUTE goes by for one that is passed over", x.order(0, 1, 2, 9, 0), 120);
    // 1 falls in the first MINUTE if 0 goes first: it LIES, and 3 watches
    PulledFromUnder seen = Check.told("tt9;ot00;tt9;tw9;f9;m01;");
    CHECK.due("1 goes ahead of 0", seen.order(0, 1, 2, 9, 0), 102);
    CHECK.due("3 STANDS", seen.order(0, 1, 2, 9, 1), 1);
  }

  private static void promise22Refusals() {
    PulledFromUnder x = Check.told("tt9;tt9;tt9;");
    int[][] nobody = {{0, 1, 3}, {0, 3, 1}, {3, 0, 1}, {-1, 0, 1}, {0, 0, 1}, {0, 1, 0}, {1, 0, 0}};
    for (int[] told : nobody) {
      CHECK.due("nobody", x.order(told[0], told[1], told[2], -1, 2), -1);
    }
    CHECK.due("below", x.order(0, 1, 2, -1, 2), -4);
    CHECK.due("above", x.order(0, 1, 2, 10, 2), -6);
    CHECK.due("other", x.order(0, 1, 2, 9, 2), -2);
    CHECK.due("other", x.order(0, 1, 2, 0, -1), -2);
    CHECK.dueRefusals("order", x, 7, 2, 0, 1, 0, 1);
  }

  private static void promise27() {
    PulledFromUnder x = Check.told("tt9;tt9;ot01;ot01;");
    CHECK.due("the other pulls", x.two(0, 1, 1), 1);
    CHECK.due("the other pulls", x.two(1, 0, 1), 1);
    CHECK.due("nothing has changed", x.count(2), 15);
    CHECK.due("none is there: the first pair", Check.told("tt9;tt9;f0;").two(0, 1, 5), 0);
    CHECK.due("the one pulls, since 1 sees 2 fall else", Check.told(SEEN).two(2, 0, 5), 10);
    CHECK.due("both pull", Check.told(SEEN + "tt0;").two(2, 3, 5), 11);
    // 3 (grip 9) on 2 would LIE, and be seen, were SPEED less
    CHECK.due("SPEED 9 of the one", Check.told(SEEN + "ot92;").two(2, 0, 2), 10);
    CHECK.due("SPEED 9 of the other", Check.told(SEEN + "ot92;").two(0, 2, 2), 0);
    CHECK.due("behind 99 MINUTES", x.two(0, 1, 99), 1);
    CHECK.due("behind none", x.two(0, 1, 0), 1);
    CHECK.due("all fall anyhow", Check.told("tt0;tt0;f9;").two(0, 1, 1), 0);
    // by the pull of 0 the bride LIES and the watchers see her; if she is GONE they do not
    String bride = "tt9;ob00;ow90;ow90;ow90;";
    CHECK.due("she is pulled first", Check.told(bride).two(1, 0, 9), 11);
    CHECK.due("she is caught first", Check.told(bride).two(0, 1, 9), 1);
    CHECK.due("nobody", x.two(0, 4, -1), -1);
    CHECK.due("nobody", x.two(-1, 0, 0), -1);
    CHECK.due("one twice", x.two(1, 1, 100), -1);
    CHECK.due("below", x.two(0, 1, -1), -4);
    CHECK.due("above", x.two(0, 1, 100), -6);
    CHECK.dueRefusals("two", x, 3, 0, 0, 1, 0, 1);
  }
}
