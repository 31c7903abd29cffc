/** Things that stand on things or the floor, and what is pulled from under them: see DOC.md. */
public final class PulledFromUnder {
  private static final int MOST_THINGS = 10;
  private static final int MOST_LETTERS = 96;
  private static final int MOST_IN_ROW = 16;
  private static final int MOST_SPEED = 9;
  private static final int MOST_FIGURE = 9;
  private static final int MOST_AHEAD = 99;
  private static final int MOST_AT_A_TIME = 60;
  private static final int LAST_MINUTE = 999;
  private static final int WITHOUT_SIGN = 0x7FFFFFFF;

  private static final int THING = 0;
  private static final int GLASS = 1;
  private static final int PERSON = 2;
  private static final int COUNCIL = 3;
  private static final int WATCHER = 4;
  private static final int BRIDE = 5;
  private static final int KINDS = 6;

  private static final int STANDS = 0;
  private static final int LIES = 1;
  private static final int GONE = 2;

  private static final int NOBODY = -1;
  private static final int OTHER = -2;
  private static final int STATE = -3;
  private static final int BELOW = -4;
  private static final int ROOM = -6;
  private static final int FINE = 0;
  private static final long LONG_REFUSAL = 4000000000000000000L;

  private static final int NONE = -9;
  private static final int THE_FLOOR = -9;
  private static final int WRONG_LETTER = -1000;
  private static final int WRONG_STATEMENT = -2000;

  /** The orders of three, by places: 100 times the first, 10 times the second, the third. */
  private static final int[] ORDERS = {12, 21, 102, 120, 201, 210};

  private final Scene now;
  private final Scene mind;
  private final Scene kept;
  private boolean hasImage;
  private final int[] letters;
  private int letterCount;
  private final int[] rowNumbers;
  private int rowCount;
  private final int[] refusals;
  private final int[] fallTimes;
  private int seed;

  public PulledFromUnder() {
    now = new Scene();
    mind = new Scene();
    kept = new Scene();
    letters = new int[MOST_LETTERS];
    rowNumbers = new int[MOST_IN_ROW];
    refusals = new int[1 - ROOM];
    fallTimes = new int[MOST_THINGS];
  }

  // ---- a room told in letters

  public int letter(int c) {
    int refusal = outside(c, 0, 255);
    if (refusal == FINE && letterCount >= MOST_LETTERS) {
      refusal = ROOM;
    }
    if (refusal != FINE) {
      return refuse(refusal);
    }
    letters[letterCount] = c;
    letterCount++;
    return letterCount;
  }

  public int room() {
    int answer = readLetters();
    letterCount = 0;
    return answer;
  }

  // ---- what is done

  public int thing(int thing, int what) {
    int refusal = refusalOfThing(thing, otherThan(what, 7));
    if (refusal != FINE) {
      return refuse(refusal);
    }
    switch (what) {
      case 0: return now.kinds[thing];
      case 1: return now.figures[thing];
      case 2: return now.below[thing];
      case 3: return now.stateOf(thing);
      case 4: return now.air[thing];
      case 5: return now.habitOf(thing);
      case 6: return now.gripOf(thing);
      default: return bit(now.isHeld(thing));
    }
  }

  public int pulls(int thing, int speed) {
    int refusal = refusalOfPull(thing, outside(speed, 0, MOST_SPEED));
    if (refusal != FINE) {
      return refuse(refusal);
    }
    return Integer.bitCount(now.pullThing(thing, speed));
  }

  public int floor(int speed) {
    int refusal = outside(speed, 0, MOST_SPEED);
    if (refusal == FINE && !now.hasFloor) {
      refusal = STATE;
    }
    if (refusal != FINE) {
      return refuse(refusal);
    }
    return Integer.bitCount(now.pullFloor(speed));
  }

  public int lays() {
    if (now.hasFloor) {
      return refuse(STATE);
    }
    now.hasFloor = true;
    return now.countOnFloor();
  }

  public int setsUp(int thing) {
    int refusal = refusalOfThing(thing, now.lies(thing) ? FINE : STATE);
    if (refusal != FINE) {
      return refuse(refusal);
    }
    now.setUp(thing);
    return bit(now.isHeld(thing));
  }

  public int turn(int thing, int kind, int figure) {
    int otherwise = firstOf(otherThan(kind, KINDS - 1), outside(figure, 0, MOST_FIGURE));
    int refusal = refusalOfThing(thing, otherwise);
    if (refusal != FINE) {
      return refuse(refusal);
    }
    int had = 10 * now.kinds[thing] + now.figures[thing];
    now.become(thing, kind, figure);
    return had;
  }

  public int minutes(int n) {
    int refusal = outside(n, 1, MOST_AT_A_TIME);
    if (refusal == FINE && !now.hasTimeFor(n)) {
      refusal = ROOM;
    }
    if (refusal != FINE) {
      return refuse(refusal);
    }
    now.passMinutes(n);
    return now.countStanding();
  }

  // ---- what will be

  public int behind(int thing, int n, int what) {
    int otherwise = firstOf(outside(n, 0, MOST_AHEAD), otherThan(what, 2));
    int refusal = refusalOfThing(thing, otherwise);
    if (refusal != FINE) {
      return refuse(refusal);
    }
    mind.copyFrom(now);
    mind.passMinutes(n);
    switch (what) {
      case 0: return mind.stateOf(thing);
      case 1: return mind.air[thing];
      default: return mind.countStanding();
    }
  }

  public int falls(int thing) {
    int refusal = refusalOfThing(thing, FINE);
    if (refusal != FINE) {
      return refuse(refusal);
    }
    mind.copyFrom(now);
    findFallTimes();
    return fallTimes[thing];
  }

  public int first(int what) {
    int refusal = otherThan(what, 1);
    if (refusal != FINE) {
      return refuse(refusal);
    }
    int faller = firstFaller();
    return faller == NONE || what == 0 ? faller : fallTimes[faller];
  }

  public int allStand() {
    int faller = firstFaller();
    return faller == NONE ? MOST_AHEAD : fallTimes[faller] - 1;
  }

  // ---- towers

  public int tower(int thing, int what) {
    int refusal = refusalOfThing(thing, otherThan(what, 2));
    if (refusal != FINE) {
      return refuse(refusal);
    }
    switch (what) {
      case 0: return now.heightOf(thing);
      case 1: return now.allAbove(thing);
      default: return now.bottomOf(thing);
    }
  }

  // ---- what a pull would do

  public int leastSpeed(int thing) {
    int refusal = refusalOfPull(thing, FINE);
    if (refusal != FINE) {
      return refuse(refusal);
    }
    for (int speed = 0; speed <= MOST_SPEED; speed++) {
      if (now.caughtOn(thing, speed) == 0) {
        return speed;
      }
    }
    return NONE;
  }

  public int atOnce(int thing, int speed) {
    int refusal = refusalOfPull(thing, outside(speed, 0, MOST_SPEED));
    return refusal != FINE ? refuse(refusal) : now.caughtOn(thing, speed);
  }

  public int later(int thing, int speed, int n) {
    int below = speed < 0 || n < 0 ? BELOW : FINE;
    int above = speed > MOST_SPEED || n > MOST_AHEAD ? ROOM : FINE;
    int refusal = refusalOfPull(thing, firstOf(below, above));
    if (refusal != FINE) {
      return refuse(refusal);
    }
    mind.copyFrom(now);
    mind.passMinutes(n);
    int lyingElse = mind.lying;
    mind.copyFrom(now);
    int once = mind.pullThing(thing, speed);
    mind.passMinutes(n);
    return mind.lying & ~once & ~lyingElse;
  }

  public int pullMost(int thing, int n, int what) {
    int otherwise = firstOf(outside(n, 0, 30), otherThan(what, 1));
    int refusal = refusalOfThing(thing, otherwise);
    if (refusal != FINE) {
      return refuse(refusal);
    }
    int others = now.standing & ~(1 << thing);
    int most = NONE;
    int which = NONE;
    for (int set = 0; set <= others; set++) {
      int size = Integer.bitCount(set);
      if ((set & ~others) == 0 && size > most && standsThough(thing, set, n)) {
        most = size;
        which = set;
      }
    }
    return what == 0 ? most : which;
  }

  public int key(int n) {
    int refusal = outside(n, 0, MOST_AHEAD);
    if (refusal != FINE) {
      return refuse(refusal);
    }
    int best = NONE;
    int fewest = MOST_THINGS + 1;
    for (int thing = 0; thing < now.things; thing++) {
      if (now.stands(thing)) {
        mind.copyFrom(now);
        mind.pullThing(thing, MOST_SPEED);
        mind.passMinutes(n);
        if (mind.countStanding() < fewest) {
          fewest = mind.countStanding();
          best = thing;
        }
      }
    }
    return best;
  }

  public int prop(int n) {
    int refusal = outside(n, 0, MOST_AHEAD);
    if (refusal != FINE) {
      return refuse(refusal);
    }
    // As long as none of them falls, who is HELD and every HABIT stay as they are now;
    // so each whose own AIR runs out has to be propped itself, and nobody else has.
    int propped = 0;
    for (int thing = 0; n > 0 && thing < now.things; thing++) {
      boolean floats = now.stands(thing) && !now.isHeld(thing);
      if (floats && now.air[thing] + n > now.habitOf(thing)) {
        propped |= 1 << thing;
      }
    }
    return propped;
  }

  public int order(int a, int b, int c, int speed, int what) {
    boolean areThree = now.isThing(a) && now.isThing(b) && now.isThing(c)
        && a != b && b != c && a != c;
    int refusal = firstOf(areThree ? FINE : NOBODY, outside(speed, 0, MOST_SPEED));
    refusal = firstOf(refusal, otherThan(what, 1));
    if (refusal != FINE) {
      return refuse(refusal);
    }
    int best = ORDERS[0];
    int most = NONE;
    for (int order : ORDERS) {
      int standing = standingByOrder(order, a, b, c, speed);
      if (standing > most) {
        most = standing;
        best = order;
      }
    }
    return what == 0 ? best : most;
  }

  public int floorFalls(int speed) {
    int refusal = outside(speed, 0, MOST_SPEED);
    if (refusal != FINE) {
      return refuse(refusal);
    }
    return now.hasFloor ? Integer.bitCount(now.caughtOn(THE_FLOOR, speed)) : NONE;
  }

  // ---- what is seen, and set up again

  public int watched(int what) {
    int refusal = otherThan(what, 1);
    if (refusal != FINE) {
      return refuse(refusal);
    }
    return what == 0 ? now.countWatching() : bit(now.isSure());
  }

  public int rebuild(int what) {
    int refusal = otherThan(what, 1);
    if (refusal != FINE) {
      return refuse(refusal);
    }
    if (what == 0) {
      return now.firstToSetUp();
    }
    mind.copyFrom(now);
    int how = 0;
    for (int turns = 0; turns < MOST_THINGS; turns++) {
      int thing = mind.firstToSetUp();
      if (thing == NONE) {
        return how;
      }
      mind.setUp(thing);
      how++;
    }
    return how;
  }

  // ---- odds, and two who pull

  public long draught(int thing, int n, int t, int part) {
    int below = n < 0 || t < 2 ? BELOW : FINE;
    int above = n > 7 || t > 20 ? ROOM : FINE;
    int otherwise = firstOf(firstOf(below, above), otherThan(part, 1));
    int refusal = refusalOfThing(thing, otherwise);
    if (refusal != FINE) {
      refuse(refusal);
      return LONG_REFUSAL - refusal;
    }
    long all = power(t, n);
    long good = 0;
    for (int draughts = 0; draughts < 1 << n; draughts++) {
      if (standsInDraughts(thing, n, draughts)) {
        good += power(t - 1, n - Integer.bitCount(draughts));
      }
    }
    long common = greatestCommon(good, all);
    if (common == 0) {
      return 0;
    }
    return part == 0 ? good / common : all / common;
  }

  public int two(int a, int b, int n) {
    boolean areTwo = now.isThing(a) && now.isThing(b) && a != b;
    int refusal = firstOf(areTwo ? FINE : NOBODY, outside(n, 0, MOST_AHEAD));
    if (refusal != FINE) {
      return refuse(refusal);
    }
    int neither = standingByTwo(NONE, NONE, n);
    int other = standingByTwo(NONE, b, n);
    int one = standingByTwo(a, NONE, n);
    int both = standingByTwo(a, b, n);
    if (keepsBoth(neither, one, other)) {
      return 0;
    }
    if (keepsBoth(other, both, neither)) {
      return 1;
    }
    if (keepsBoth(one, neither, both)) {
      return 10;
    }
    return keepsBoth(both, other, one) ? 11 : NONE;
  }

  // ---- the row

  public int whatWas(int thing, int what) {
    int otherwise = firstOf(otherThan(what, 1), rowCount == now.things ? FINE : STATE);
    int refusal = refusalOfThing(thing, otherwise);
    if (refusal != FINE) {
      return refuse(refusal);
    }
    return what == 0 ? kindsByRow(thing) : figuresByRow(thing);
  }

  public int row(int v) {
    int refusal = outside(v, 0, MOST_AHEAD);
    if (refusal == FINE && rowCount >= MOST_IN_ROW) {
      refusal = ROOM;
    }
    if (refusal != FINE) {
      return refuse(refusal);
    }
    rowNumbers[rowCount] = v;
    rowCount++;
    return rowCount;
  }

  public int judge() {
    int judged = firstNotSo();
    rowCount = 0;
    return judged;
  }

  public int clear() {
    int had = rowCount;
    rowCount = 0;
    return had;
  }

  // ---- rooms by lot

  public int lots(int n, int z, int what) {
    int refusal = firstOf(outside(n, 1, 20), otherThan(what, 1));
    if (refusal == FINE && now.things == 0) {
      refusal = STATE;
    }
    if (refusal != FINE) {
      return refuse(refusal);
    }
    seed = z;
    int standing = 0;
    int lying = 0;
    for (int room = 0; room < n; room++) {
      playLots();
      standing += mind.countStanding();
      lying += Integer.bitCount(mind.lying);
    }
    return what == 0 ? standing : lying;
  }

  // ---- the image, and counts

  public int image() {
    kept.copyFrom(now);
    hasImage = true;
    return now.minute;
  }

  public int on() {
    if (!hasImage) {
      return refuse(STATE);
    }
    now.copyFrom(kept);
    return now.minute;
  }

  public int count(int what) {
    switch (what) {
      case 0: return now.things;
      case 1: return now.minute;
      case 2: return now.standing;
      case 3: return now.lying;
      case 4: return now.allGone();
      case 5: return bit(now.hasFloor);
      case 6: return rowCount;
      case 7: return letterCount;
      default: return what >= 11 && what <= 16 ? refusals[what - 10] : NONE;
    }
  }

  // ---- refusals: FINE, or the number

  private int refuse(int number) {
    if (number <= NOBODY && number >= ROOM) {
      refusals[-number]++;
    }
    return number;
  }

  private int refusalOfThing(int thing, int otherwise) {
    return now.isThing(thing) ? otherwise : NOBODY;
  }

  private int refusalOfPull(int thing, int otherwise) {
    return refusalOfThing(thing, firstOf(otherwise, now.stands(thing) ? FINE : STATE));
  }

  private static int outside(int value, int least, int most) {
    if (value < least) {
      return BELOW;
    }
    return value > most ? ROOM : FINE;
  }

  private static int otherThan(int what, int last) {
    return what >= 0 && what <= last ? FINE : OTHER;
  }

  private static int firstOf(int refusal, int otherwise) {
    return refusal != FINE ? refusal : otherwise;
  }

  private static int bit(boolean is) {
    return is ? 1 : 0;
  }

  // ---- reading letters

  private int readLetters() {
    int wrong = firstWrongLetter();
    if (wrong != NONE) {
      return WRONG_LETTER - wrong;
    }
    mind.copyFrom(now);
    int statements = 0;
    for (int at = 0; at < letterCount; at += 1 + shapeBehind(letters[at]).length()) {
      if (!comesInMind(at)) {
        return WRONG_STATEMENT - at;
      }
      statements++;
    }
    now.copyFrom(mind);
    return statements;
  }

  private int firstWrongLetter() {
    String shape = "";
    int step = 0;
    for (int at = 0; at < letterCount; at++) {
      if (step >= shape.length()) {
        shape = shapeBehind(letters[at]);
        step = 0;
        if (shape.isEmpty()) {
          return at;
        }
      } else if (fits(letters[at], shape.charAt(step))) {
        step++;
      } else {
        return at;
      }
    }
    return letterCount == 0 || step < shape.length() ? letterCount : NONE;
  }

  /** What a STATEMENT's first letter wants behind it: k a KIND, d a digit. */
  private static String shapeBehind(int c) {
    switch (c) {
      case 't': return "kd;";
      case 'o': return "kdd;";
      case 'p': return "dd;";
      case 'm': return "dd;";
      case 'f': return "d;";
      case 'h': return "d;";
      default: return "";
    }
  }

  private static boolean fits(int c, char wanted) {
    switch (wanted) {
      case 'k': return kindOf(c) != NONE;
      case 'd': return c >= '0' && c <= '9';
      default: return c == wanted;
    }
  }

  private static int kindOf(int c) {
    switch (c) {
      case 't': return THING;
      case 'g': return GLASS;
      case 'p': return PERSON;
      case 'c': return COUNCIL;
      case 'w': return WATCHER;
      case 'b': return BRIDE;
      default: return NONE;
    }
  }

  private int letterAt(int place) {
    return place >= 0 && place < letterCount ? letters[place] : 0;
  }

  private int digitAt(int place) {
    return letterAt(place) - '0';
  }

  /** Whether the STATEMENT at this place is as it must be; if so, it comes. */
  private boolean comesInMind(int at) {
    int kind = kindOf(letterAt(at + 1));
    int a = digitAt(at + 1);
    int b = digitAt(at + 2);
    switch (letterAt(at)) {
      case 't': return mind.hasFloor && mind.addThing(kind, b, THE_FLOOR);
      case 'o': return mind.stands(digitAt(at + 3)) && mind.addThing(kind, b, digitAt(at + 3));
      case 'p': return pullsInMind(a, b);
      case 'f': return floorInMind(a);
      case 'h': return setsUpInMind(a);
      default: return minutesInMind(10 * a + b);
    }
  }

  private boolean pullsInMind(int thing, int speed) {
    if (!mind.stands(thing)) {
      return false;
    }
    mind.pullThing(thing, speed);
    return true;
  }

  private boolean floorInMind(int speed) {
    if (!mind.hasFloor) {
      return false;
    }
    mind.pullFloor(speed);
    return true;
  }

  private boolean setsUpInMind(int thing) {
    if (!mind.stands(thing) && !mind.lies(thing)) {
      return false;
    }
    mind.setUp(thing);
    return true;
  }

  private boolean minutesInMind(int n) {
    if (n < 1 || n > MOST_AT_A_TIME || !mind.hasTimeFor(n)) {
      return false;
    }
    mind.passMinutes(n);
    return true;
  }

  // ---- thinking: all of these leave their trace in mind alone

  /** When each THING of mind LIES first; mind goes on as far as it takes. */
  private void findFallTimes() {
    for (int thing = 0; thing < MOST_THINGS; thing++) {
      fallTimes[thing] = NONE;
    }
    for (int passed = 0; passed <= MOST_AHEAD; passed++) {
      for (int thing = 0; thing < mind.things; thing++) {
        if (fallTimes[thing] == NONE && mind.lies(thing)) {
          fallTimes[thing] = passed;
        }
      }
      if (!mind.passMinute(0)) {
        return;
      }
    }
  }

  private int firstFaller() {
    mind.copyFrom(now);
    findFallTimes();
    int faller = NONE;
    int soonest = MOST_AHEAD + 1;
    for (int thing = 0; thing < now.things; thing++) {
      boolean willFall = now.stands(thing) && fallTimes[thing] != NONE;
      if (willFall && fallTimes[thing] < soonest) {
        soonest = fallTimes[thing];
        faller = thing;
      }
    }
    return faller;
  }

  /** A set with one that is passed over fails: the set without that one tells the same pulls. */
  private boolean standsThough(int thing, int set, int n) {
    mind.copyFrom(now);
    for (int other = 0; other < now.things; other++) {
      if ((set & 1 << other) != 0) {
        if (!mind.stands(other)) {
          return false;
        }
        mind.pullThing(other, MOST_SPEED);
      }
    }
    for (int passed = 0; passed < n && mind.stands(thing); passed++) {
      if (!mind.passMinute(0)) {
        return mind.stands(thing);
      }
    }
    return mind.stands(thing);
  }

  private int standingByOrder(int order, int a, int b, int c, int speed) {
    mind.copyFrom(now);
    int rest = order;
    for (int part = 100; part > 0; part /= 10) {
      int place = rest / part;
      rest %= part;
      int thing = place == 0 ? a : place == 1 ? b : c;
      if (mind.stands(thing)) {
        mind.pullThing(thing, speed);
      }
      mind.passMinute(0);
    }
    mind.passMinutes(7);
    return mind.countStanding();
  }

  /** How many STAND behind n MINUTES, a and b PULLED; NONE for one that is not. */
  private int standingByTwo(int a, int b, int n) {
    mind.copyFrom(now);
    if (mind.stands(a)) {
      mind.pullThing(a, MOST_SPEED);
    }
    if (mind.stands(b)) {
      mind.pullThing(b, MOST_SPEED);
    }
    mind.passMinutes(n);
    return mind.countStanding();
  }

  /** Whether the one, who wants most, and the other, who wants fewest, both keep to this. */
  private static boolean keepsBoth(int standing, int oneElse, int otherElse) {
    return standing >= oneElse && standing <= otherElse;
  }

  private boolean standsInDraughts(int thing, int n, int draughts) {
    mind.copyFrom(now);
    for (int passed = 0; passed < n && mind.stands(thing); passed++) {
      mind.passMinute(draughts >> passed & 1);
    }
    return mind.stands(thing);
  }

  private static long power(int base, int exponent) {
    long product = 1;
    for (int i = 0; i < exponent; i++) {
      product *= base;
    }
    return product;
  }

  private static long greatestCommon(long a, long b) {
    long greater = a;
    long less = b;
    for (int i = 0; i < 100 && less != 0; i++) {
      long rest = greater % less;
      greater = less;
      less = rest;
    }
    return greater;
  }

  /** It keeps the FIGURE it has; the KIND alone is another. */
  private int kindsByRow(int thing) {
    int kinds = 0;
    for (int kind = 0; kind < KINDS; kind++) {
      if (rowIsSoWith(thing, kind, now.figures[thing])) {
        kinds |= 1 << kind;
      }
    }
    return kinds;
  }

  /** It keeps the KIND it has; the FIGURE alone is another. */
  private int figuresByRow(int thing) {
    int figures = 0;
    for (int figure = 0; figure <= MOST_FIGURE; figure++) {
      if (rowIsSoWith(thing, now.kinds[thing], figure)) {
        figures |= 1 << figure;
      }
    }
    return figures;
  }

  private boolean rowIsSoWith(int thing, int kind, int figure) {
    mind.copyFrom(now);
    mind.become(thing, kind, figure);
    findFallTimes();
    for (int i = 0; i < rowCount && i < now.things; i++) {
      int told = fallTimes[i] == NONE ? MOST_AHEAD : fallTimes[i];
      if (rowNumbers[i] != told) {
        return false;
      }
    }
    return true;
  }

  private int firstNotSo() {
    mind.copyFrom(now);
    for (int i = 0; i < rowCount; i++) {
      if (rowNumbers[i] != mind.countStanding()) {
        return i;
      }
      mind.passMinute(0);
    }
    return NONE;
  }

  private void playLots() {
    mind.copyFrom(now);
    for (int passed = 0; passed < 5; passed++) {
      int thing = drawBelow(now.things);
      int speed = drawBelow(MOST_SPEED + 1);
      if (mind.stands(thing)) {
        mind.pullThing(thing, speed);
      }
      mind.passMinute(0);
    }
  }

  private int drawBelow(int m) {
    seed = seed * 1664525 + 1013904223;
    return m > 0 ? (seed & WITHOUT_SIGN) / 256 % m : 0;
  }

  /** THINGS, FLOOR and MINUTE as they are, as they are thought to be, or as the IMAGE has them. */
  private static final class Scene {
    int things;
    int minute;
    boolean hasFloor;
    int standing;
    int lying;
    final int[] kinds;
    final int[] figures;
    final int[] below;
    final int[] air;

    Scene() {
      hasFloor = true;
      kinds = new int[MOST_THINGS];
      figures = new int[MOST_THINGS];
      below = new int[MOST_THINGS];
      air = new int[MOST_THINGS];
    }

    void copyFrom(Scene other) {
      things = other.things;
      minute = other.minute;
      hasFloor = other.hasFloor;
      standing = other.standing;
      lying = other.lying;
      System.arraycopy(other.kinds, 0, kinds, 0, MOST_THINGS);
      System.arraycopy(other.figures, 0, figures, 0, MOST_THINGS);
      System.arraycopy(other.below, 0, below, 0, MOST_THINGS);
      System.arraycopy(other.air, 0, air, 0, MOST_THINGS);
    }

    boolean isThing(int thing) {
      return thing >= 0 && thing < things;
    }

    boolean stands(int thing) {
      return thing >= 0 && thing < things && (standing & 1 << thing) != 0;
    }

    boolean lies(int thing) {
      return thing >= 0 && thing < things && (lying & 1 << thing) != 0;
    }

    int stateOf(int thing) {
      if (stands(thing)) {
        return STANDS;
      }
      return lies(thing) ? LIES : GONE;
    }

    int allGone() {
      return (1 << things) - 1 & ~standing & ~lying;
    }

    int countStanding() {
      return Integer.bitCount(standing);
    }

    private boolean hasGround(int thing) {
      int under = below[thing];
      return under == THE_FLOOR ? hasFloor : (standing & 1 << under) != 0;
    }

    boolean isHeld(int thing) {
      return stands(thing) && hasGround(thing);
    }

    boolean isSure() {
      for (int thing = 0; thing < things; thing++) {
        if (stands(thing) && !hasGround(thing)) {
          return false;
        }
      }
      return true;
    }

    int countWatching() {
      int watching = 0;
      for (int thing = 0; lying != 0 && thing < things; thing++) {
        if (stands(thing) && kinds[thing] == WATCHER) {
          watching++;
        }
      }
      return watching;
    }

    int habitOf(int thing) {
      int plain = figures[thing] / 3;
      int glass = Math.max(0, plain - 1);
      int person = plain + figures[thing];
      switch (kinds[thing]) {
        case GLASS: return glass;
        case PERSON: return person;
        case COUNCIL: return person + 20;
        case WATCHER: return (lying & ~(1 << thing)) != 0 ? 0 : person;
        case BRIDE: return glass + 2;
        default: return plain;
      }
    }

    int gripOf(int thing) {
      int figure = figures[thing];
      switch (kinds[thing]) {
        case GLASS: return 9 - figure;
        case PERSON: return figure / 2;
        case COUNCIL: return 0;
        case WATCHER: return figure / 2;
        case BRIDE: return 10 - figure;
        default: return figure;
      }
    }

    /** Whether there was room for it. */
    boolean addThing(int kind, int figure, int ground) {
      if (things >= MOST_THINGS) {
        return false;
      }
      below[things] = ground;
      air[things] = 0;
      standing |= 1 << things;
      things++;
      become(things - 1, kind, figure);
      return true;
    }

    void become(int thing, int kind, int figure) {
      if (isThing(thing)) {
        kinds[thing] = kind;
        figures[thing] = figure;
      }
    }

    void setUp(int thing) {
      if (isThing(thing)) {
        standing |= 1 << thing;
        lying &= ~(1 << thing);
        air[thing] = 0;
      }
    }

    int countOnFloor() {
      int on = 0;
      for (int thing = 0; thing < things; thing++) {
        if (stands(thing) && below[thing] == THE_FLOOR) {
          on++;
        }
      }
      return on;
    }

    /** Those that LIE at once when what they STAND ON is PULLED. */
    int caughtOn(int ground, int speed) {
      int caught = 0;
      for (int thing = 0; thing < things; thing++) {
        if (stands(thing) && below[thing] == ground && gripOf(thing) > speed) {
          caught |= 1 << thing;
        }
      }
      return caught;
    }

    int pullThing(int thing, int speed) {
      int caught = caughtOn(thing, speed);
      if (isThing(thing)) {
        standing &= ~(1 << thing);
      }
      layDown(caught);
      return caught;
    }

    int pullFloor(int speed) {
      int caught = caughtOn(THE_FLOOR, speed);
      hasFloor = false;
      layDown(caught);
      return caught;
    }

    private void layDown(int falling) {
      standing &= ~falling;
      lying |= falling;
    }

    boolean hasTimeFor(int n) {
      return minute <= LAST_MINUTE - n;
    }

    void passMinutes(int n) {
      minute += n;
      for (int passed = 0; passed < n; passed++) {
        if (!passMinute(0)) {
          return;
        }
      }
    }

    /**
     * What a MINUTE does to THINGS, with a draught's AIR besides; whether any AIR is other than
     * before it: if none is, nothing fell, and no later MINUTE without a draught changes a thing.
     */
    boolean passMinute(int draught) {
      boolean moved = false;
      for (int thing = 0; thing < things; thing++) {
        if (stands(thing)) {
          int next = hasGround(thing) ? 0 : air[thing] + 1 + draught;
          moved = moved || next != air[thing];
          air[thing] = next;
        }
      }
      int falling = 0;
      for (int thing = 0; thing < things; thing++) {
        if (stands(thing) && air[thing] > habitOf(thing)) {
          falling |= 1 << thing;
        }
      }
      layDown(falling);
      return moved;
    }

    int firstToSetUp() {
      for (int thing = 0; thing < things; thing++) {
        if (lies(thing) && hasGround(thing)) {
          return thing;
        }
      }
      return NONE;
    }

    int heightOf(int thing) {
      int height = 0;
      int under = isThing(thing) ? below[thing] : THE_FLOOR;
      for (int i = 0; i < MOST_THINGS && isThing(under); i++) {
        height++;
        under = below[under];
      }
      return height;
    }

    int bottomOf(int thing) {
      int bottom = thing;
      for (int i = 0; i < MOST_THINGS && isThing(bottom) && isThing(below[bottom]); i++) {
        bottom = below[bottom];
      }
      return bottom;
    }

    /** One pass is enough: each is ON one of a lesser number. */
    int allAbove(int thing) {
      int above = 0;
      for (int other = 0; other < things; other++) {
        boolean isOnIt = below[other] == thing;
        boolean isOnThese = isThing(below[other]) && (above & 1 << below[other]) != 0;
        if (isOnIt || isOnThese) {
          above |= 1 << other;
        }
      }
      return above;
    }
  }
}
