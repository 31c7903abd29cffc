import java.util.Arrays;

/**
 * Each call's refusals: the last number taken and the first refused on either side, in the order
 * in which the promise tells them wherever more than one fits, and that nothing else changes.
 */
public final class RefusedTest {
  private static final Check CHECK = new Check();
  private static final int LEAST = Integer.MIN_VALUE;
  private static final int MOST = Integer.MAX_VALUE;
  private static final long OF_LONGS = 4000000000000000000L;
  /** In rooms 0 and 1 THING 0 is GONE, 1 LIES, 2 to 5 STAND; in room 2 there are ten. */
  private static final int[] WHO = {LEAST, -1, 0, 1, 2, 5, 6, 9, 10, MOST};

  /** How many STAND in these behind 0, 1, .. MINUTES: of such a ROW judge sees each number. */
  private static final int[][] STAND = {{4, 3, 3, 3, 3, 3}, {4, 2, 2, 2, 1, 1}};

  private interface Call {
    long of(PulledFromUnder x, int[] told);
  }

  private interface Fits {
    boolean in(PulledFromUnder x, int[] told);
  }

  private static final class Refusal {
    final int number;
    final Fits fits;

    Refusal(int number, Fits fits) {
      this.number = number;
      this.fits = fits;
    }
  }

  public static void main(String[] args) {
    roomsAreAsTold();
    lettersAndRow();
    whatIsDone();
    whatWillBe();
    whatAPullWouldDo();
    searches();
    theRest();
    CHECK.end();
  }

  // ---- rooms in which it is asked

  /** 0: the FLOOR is there; 1: it is GONE; 2: full of everything; 3: empty. */
  private static PulledFromUnder made(int room) {
    PulledFromUnder x = new PulledFromUnder();
    if (room == 3) {
      return x;
    }
    if (room == 2) {
      return full(x);
    }
    Check.tell(x, "tt9;ot90;op90;ot50;tw5;ob44;");
    x.image();
    Check.tell(x, room == 0 ? "p08;m01;" : "p08;m01;f9;");
    for (int number : STAND[room]) {
      x.row(number);
    }
    type(x, "ot95;");
    return x;
  }

  private static PulledFromUnder full(PulledFromUnder x) {
    Check.tell(x, "tt9;ot90;op90;ot50;tw5;ob44;tt0;tt0;tt0;tt0;p08;m60;");
    x.image();
    for (int i = 0; i < 15; i++) {
      x.minutes(60);
    }
    x.minutes(39);
    for (int i = 0; i < 16; i++) {
      x.row(6);
    }
    type(x, "h1;h2;h1;h2;h1;h2;h1;h2;h1;h2;h1;h2;h1;h2;h1;h2;");
    type(x, "h1;h2;h1;h2;h1;h2;h1;h2;h1;h2;h1;h2;h1;h2;h1;h2;");
    return x;
  }

  private static void type(PulledFromUnder x, String text) {
    for (int i = 0; i < text.length(); i++) {
      x.letter(text.charAt(i));
    }
  }

  /** Without this the tests below would say less than they seem to. */
  private static void roomsAreAsTold() {
    int[][] want = {{6, 1, 60, 2, 1, 1, 6, 5}, {6, 1, 60, 2, 1, 0, 6, 5},
        {10, 999, 1008, 14, 1, 1, 16, 96}, {0, 0, 0, 0, 0, 1, 0, 0}};
    for (int room = 0; room < 4; room++) {
      PulledFromUnder x = made(room);
      for (int what = 0; what < 8; what++) {
        CHECK.due("room " + room + " count(" + what + ")", x.count(what), want[room][what]);
      }
      CHECK.dueRefusals("room " + room, x, 0, 0, 0, 0, 0, 0);
      CHECK.due("all of the ROW is so", x.judge(), -9);
      CHECK.due("the letters are a ROOM", x.room(), room == 2 ? 32 : room == 3 ? -1000 : 1);
      CHECK.due("the IMAGE", x.on(), room == 2 ? 60 : room == 3 ? -3 : 0);
    }
  }

  // ---- what may be refused

  private static Refusal nobody(int place) {
    return new Refusal(-1, (x, a) -> a[place] < 0 || a[place] >= x.count(0));
  }

  private static Refusal twice(int one, int other) {
    return new Refusal(-1, (x, a) -> a[one] == a[other]);
  }

  private static Refusal below(int place, int least) {
    return new Refusal(-4, (x, a) -> a[place] < least);
  }

  private static Refusal above(int place, int most) {
    return new Refusal(-6, (x, a) -> a[place] > most);
  }

  private static Refusal other(int place, int last) {
    return new Refusal(-2, (x, a) -> a[place] < 0 || a[place] > last);
  }

  private static Refusal doesNotStand(int place) {
    return new Refusal(-3, (x, a) -> x.thing(a[place], 3) != 0);
  }

  private static Refusal when(int number, Fits fits) {
    return new Refusal(number, fits);
  }

  /** Around the least and the greatest. */
  private static int[] around(int least, int most) {
    return new int[] {LEAST, least - 1, least, most, most + 1, MOST};
  }

  // ---- each call with each of its numbers, in each room

  private static void each(String name, Call call, int[][] numbers, Refusal... inOrder) {
    eachOf(false, name, call, numbers, inOrder);
  }

  /** One that only asks leaves all as it was when it is taken, too. */
  private static void asked(String name, Call call, int[][] numbers, Refusal... inOrder) {
    eachOf(true, name, call, numbers, inOrder);
  }

  private static void eachOf(boolean onlyAsks, String name, Call call, int[][] numbers,
      Refusal... inOrder) {
    int[] told = new int[numbers.length];
    for (int room = 0; room < 4; room++) {
      String whole = Whole.of(made(room));
      int all = 1;
      for (int[] some : numbers) {
        all *= some.length;
      }
      for (int i = 0; i < all; i++) {
        int rest = i;
        for (int place = 0; place < numbers.length; place++) {
          told[place] = numbers[place][rest % numbers[place].length];
          rest /= numbers[place].length;
        }
        String said = name + Arrays.toString(told) + " in room " + room;
        int due = firstThatFits(made(room), told, inOrder);
        PulledFromUnder x = made(room);
        answers(said, due, call, x, told);
        if (due != 0 || onlyAsks) {
          CHECK.due(said + " leaves all as it was:", Whole.of(x).equals(whole) ? 1 : 0, 1);
        }
      }
    }
  }

  private static void answers(String said, int due, Call call, PulledFromUnder x, int[] told) {
    int[] counted = Whole.refusals(x);
    long got = call.of(x, told);
    if (due == 0) {
      boolean taken = got >= 0 && got < OF_LONGS || got == -9 || got <= -1000;
      CHECK.due(said + " is taken (" + got + "):", taken ? 1 : 0, 1);
    } else {
      counted[-due - 1]++;
      CHECK.due(said, got, said.startsWith("draught") ? OF_LONGS - due : due);
    }
    CHECK.dueRefusals(said, x, counted);
  }

  private static int firstThatFits(PulledFromUnder x, int[] told, Refusal... inOrder) {
    for (Refusal refusal : inOrder) {
      if (refusal.fits.in(x, told)) {
        return refusal.number;
      }
    }
    return 0;
  }

  // ---- the promises

  /** Promises 2, 3, 28 to 31. */
  private static void lettersAndRow() {
    each("letter", (x, a) -> x.letter(a[0]), new int[][] {around(0, 255)},
        below(0, 0), above(0, 255), when(-6, (x, a) -> x.count(7) == 96));
    each("room", (x, a) -> x.room(), new int[][] {});
    asked("whatWas", (x, a) -> x.whatWas(a[0], a[1]), new int[][] {WHO, around(0, 1)},
        nobody(0), other(1, 1), when(-3, (x, a) -> x.count(6) != x.count(0)));
    each("row", (x, a) -> x.row(a[0]), new int[][] {around(0, 99)},
        below(0, 0), above(0, 99), when(-6, (x, a) -> x.count(6) == 16));
    each("judge", (x, a) -> x.judge(), new int[][] {});
    each("clear", (x, a) -> x.clear(), new int[][] {});
  }

  /** Promises 4 to 10. */
  private static void whatIsDone() {
    asked("thing", (x, a) -> x.thing(a[0], a[1]), new int[][] {WHO, around(0, 7)},
        nobody(0), other(1, 7));
    each("pulls", (x, a) -> x.pulls(a[0], a[1]), new int[][] {WHO, around(0, 9)},
        nobody(0), below(1, 0), above(1, 9), doesNotStand(0));
    each("floor", (x, a) -> x.floor(a[0]), new int[][] {around(0, 9)},
        below(0, 0), above(0, 9), when(-3, (x, a) -> x.count(5) == 0));
    each("lays", (x, a) -> x.lays(), new int[][] {}, when(-3, (x, a) -> x.count(5) == 1));
    each("setsUp", (x, a) -> x.setsUp(a[0]), new int[][] {WHO},
        nobody(0), when(-3, (x, a) -> x.thing(a[0], 3) != 1));
    each("turn", (x, a) -> x.turn(a[0], a[1], a[2]),
        new int[][] {WHO, around(0, 5), around(0, 9)},
        nobody(0), other(1, 5), below(2, 0), above(2, 9));
    each("minutes", (x, a) -> x.minutes(a[0]), new int[][] {around(1, 60)},
        below(0, 1), above(0, 60), when(-6, (x, a) -> x.count(1) + a[0] > 999));
  }

  /** Promises 11 to 15. */
  private static void whatWillBe() {
    asked("behind", (x, a) -> x.behind(a[0], a[1], a[2]),
        new int[][] {WHO, around(0, 99), around(0, 2)},
        nobody(0), below(1, 0), above(1, 99), other(2, 2));
    asked("falls", (x, a) -> x.falls(a[0]), new int[][] {WHO}, nobody(0));
    asked("first", (x, a) -> x.first(a[0]), new int[][] {around(0, 1)}, other(0, 1));
    asked("allStand", (x, a) -> x.allStand(), new int[][] {});
    asked("tower", (x, a) -> x.tower(a[0], a[1]), new int[][] {WHO, around(0, 2)},
        nobody(0), other(1, 2));
  }

  /** Promises 16 to 18 and 23. */
  private static void whatAPullWouldDo() {
    asked("leastSpeed", (x, a) -> x.leastSpeed(a[0]), new int[][] {WHO},
        nobody(0), doesNotStand(0));
    asked("atOnce", (x, a) -> x.atOnce(a[0], a[1]), new int[][] {WHO, around(0, 9)},
        nobody(0), below(1, 0), above(1, 9), doesNotStand(0));
    asked("later", (x, a) -> x.later(a[0], a[1], a[2]),
        new int[][] {WHO, around(0, 9), around(0, 99)},
        nobody(0), below(1, 0), below(2, 0), above(1, 9), above(2, 99), doesNotStand(0));
    asked("floorFalls", (x, a) -> x.floorFalls(a[0]), new int[][] {around(0, 9)},
        below(0, 0), above(0, 9));
  }

  /** Promises 19 to 22 and 27. */
  private static void searches() {
    asked("pullMost", (x, a) -> x.pullMost(a[0], a[1], a[2]),
        new int[][] {WHO, around(0, 30), around(0, 1)},
        nobody(0), below(1, 0), above(1, 30), other(2, 1));
    asked("key", (x, a) -> x.key(a[0]), new int[][] {around(0, 99)}, below(0, 0), above(0, 99));
    asked("prop", (x, a) -> x.prop(a[0]), new int[][] {around(0, 99)}, below(0, 0), above(0, 99));
    int[] three = {-1, 0, 1, 5, 6, 10};
    asked("order", (x, a) -> x.order(a[0], a[1], a[2], a[3], a[4]),
        new int[][] {three, three, three, {-1, 0, 9, 10}, {-1, 0, 1, 2}},
        nobody(0), nobody(1), nobody(2), twice(0, 1), twice(0, 2), twice(1, 2),
        below(3, 0), above(3, 9), other(4, 1));
    asked("order of all", (x, a) -> x.order(0, 1, 2, a[0], a[1]),
        new int[][] {around(0, 9), around(0, 1)},
        when(-1, (x, a) -> x.count(0) == 0), below(0, 0), above(0, 9), other(1, 1));
    asked("two", (x, a) -> x.two(a[0], a[1], a[2]), new int[][] {WHO, WHO, around(0, 99)},
        nobody(0), nobody(1), twice(0, 1), below(2, 0), above(2, 99));
  }

  /** Promises 24 to 26 and 32 to 35. */
  private static void theRest() {
    asked("watched", (x, a) -> x.watched(a[0]), new int[][] {around(0, 1)}, other(0, 1));
    asked("rebuild", (x, a) -> x.rebuild(a[0]), new int[][] {around(0, 1)}, other(0, 1));
    asked("draught", (x, a) -> x.draught(a[0], a[1], a[2], a[3]),
        new int[][] {{-1, 0, 1, 2, 5, 6, 10}, around(0, 7), around(2, 20), {-1, 0, 1, 2}},
        nobody(0), below(1, 0), below(2, 2), above(1, 7), above(2, 20), other(3, 1));
    asked("lots", (x, a) -> x.lots(a[0], a[1], a[2]),
        new int[][] {around(1, 20), {LEAST, -1, 0, MOST}, around(0, 1)},
        below(0, 1), above(0, 20), other(2, 1), when(-3, (x, a) -> x.count(0) == 0));
    each("image", (x, a) -> x.image(), new int[][] {});
    each("on", (x, a) -> x.on(), new int[][] {}, when(-3, (x, a) -> x.count(0) == 0));
    int[] none = {LEAST, -1, 8, 9, 10, 17, 18, MOST};
    asked("count", (x, a) -> x.count(a[0]), new int[][] {none});
  }
}
