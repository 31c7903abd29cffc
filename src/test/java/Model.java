import java.util.ArrayList;
import java.util.List;

/**
 * The document said again, without any thrift: THINGS are objects, every thought is a deep
 * copy, every "most" and "fewest" goes through all that there is. ModelTest compares.
 */
final class Model {
  static final String KIND_LETTERS = "tgpcwb";

  static final class Item {
    char kind;
    int figure;
    Item on;
    String state = "STANDS";
    int air = 0;
    boolean propped = false;

    boolean stands() {
      return state.equals("STANDS");
    }

    boolean lies() {
      return state.equals("LIES");
    }

    int stateNumber() {
      return stands() ? 0 : lies() ? 1 : 2;
    }
  }

  static final class World {
    List<Item> items = new ArrayList<>();
    boolean floor = true;
    int minute = 0;

    World twin() {
      World w = new World();
      w.floor = floor;
      w.minute = minute;
      for (Item item : items) {
        Item t = new Item();
        t.kind = item.kind;
        t.figure = item.figure;
        t.state = item.state;
        t.air = item.air;
        t.propped = item.propped;
        t.on = item.on == null ? null : w.items.get(items.indexOf(item.on));
        w.items.add(t);
      }
      return w;
    }

    int habit(Item item) {
      return habit(item, item.kind);
    }

    int habit(Item item, char kind) {
      switch (kind) {
        case 't': return item.figure / 3;
        case 'g': return Math.max(0, habit(item, 't') - 1);
        case 'p': return habit(item, 't') + item.figure;
        case 'c': return habit(item, 'p') + 20;
        case 'w': return somebodyElseLies(item) ? 0 : habit(item, 'p');
        case 'b': return habit(item, 'g') + 2;
        default: throw new IllegalStateException();
      }
    }

    int grip(Item item, char kind) {
      switch (kind) {
        case 't': return item.figure;
        case 'g': return 9 - item.figure;
        case 'p': return grip(item, 't') / 2;
        case 'c': return 0;
        case 'w': return grip(item, 'p');
        case 'b': return grip(item, 'g') + 1;
        default: throw new IllegalStateException();
      }
    }

    boolean somebodyElseLies(Item item) {
      return items.stream().anyMatch(o -> o != item && o.lies());
    }

    boolean held(Item item) {
      if (!item.stands()) {
        return false;
      }
      return item.propped || (item.on == null ? floor : item.on.stands());
    }

    List<Item> standing() {
      List<Item> all = new ArrayList<>();
      for (Item item : items) {
        if (item.stands()) {
          all.add(item);
        }
      }
      return all;
    }

    int bits(String state) {
      int bits = 0;
      for (int i = 0; i < items.size(); i++) {
        if (items.get(i).state.equals(state)) {
          bits += Math.pow(2, i);
        }
      }
      return bits;
    }

    /** Null is the FLOOR. */
    List<Item> pull(Item what, int speed) {
      List<Item> fallen = new ArrayList<>();
      for (Item item : standing()) {
        if (item.on == what && grip(item, item.kind) > speed) {
          fallen.add(item);
        }
      }
      for (Item item : fallen) {
        item.state = "LIES";
      }
      if (what == null) {
        floor = false;
      } else {
        what.state = "GONE";
      }
      return fallen;
    }

    void minute(int more) {
      minute++;
      List<Item> held = new ArrayList<>();
      for (Item item : items) {
        if (held(item)) {
          held.add(item);
        }
      }
      for (Item item : standing()) {
        item.air = held.contains(item) ? 0 : item.air + 1 + more;
      }
      List<Item> falling = new ArrayList<>();
      for (Item item : standing()) {
        if (item.air > habit(item)) {
          falling.add(item);
        }
      }
      for (Item item : falling) {
        item.state = "LIES";
      }
    }

    World behind(int n) {
      World w = twin();
      for (int i = 0; i < n; i++) {
        w.minute(0);
      }
      return w;
    }

    int falls(int thing) {
      World w = twin();
      for (int n = 0; n <= 99; n++) {
        if (w.items.get(thing).lies()) {
          return n;
        }
        w.minute(0);
      }
      return -9;
    }
  }

  World world = new World();
  World image = null;
  List<Integer> row = new ArrayList<>();
  StringBuilder text = new StringBuilder();
  int[] refused = new int[7];

  private int no(int number) {
    refused[-number]++;
    return number;
  }

  private boolean isNobody(int thing) {
    return thing < 0 || thing >= world.items.size();
  }

  private Item item(int thing) {
    return world.items.get(thing);
  }

  int letter(int c) {
    if (c < 0) return no(-4);
    if (c > 255) return no(-6);
    if (text.length() == 96) return no(-6);
    text.append((char) c);
    return text.length();
  }

  int room() {
    String told = text.toString();
    text.setLength(0);
    int fault = firstBadLetter(told);
    if (fault >= 0) return -1000 - fault;
    World w = world.twin();
    int place = 0;
    int statements = 0;
    for (String statement : told.split(";")) {
      if (!comes(w, statement)) return -2000 - place;
      place += statement.length() + 1;
      statements++;
    }
    world = w;
    return statements;
  }

  private static final String STATEMENT =
      "(t[tgpcwb]\\d;|o[tgpcwb]\\d\\d;|p\\d\\d;|f\\d;|h\\d;|m\\d\\d;)";

  /** The end of the longest piece ahead of which some ROOM could still go on; -1: it is one. */
  private static int firstBadLetter(String told) {
    if (told.matches(STATEMENT + "+")) return -1;
    for (int length = 1; length <= told.length(); length++) {
      if (!canGoOn(told.substring(0, length))) return length - 1;
    }
    return told.length();
  }

  private static boolean canGoOn(String head) {
    String[] tails = {"", ";", "0;", "00;", "t0;", "t00;", "tt0;"};
    for (String tail : tails) {
      if ((head + tail).matches(STATEMENT + "+")) return true;
    }
    return false;
  }

  private static boolean comes(World w, String s) {
    int last = s.charAt(s.length() - 1) - '0';
    int digit = s.charAt(1) - '0';
    switch (s.charAt(0)) {
      case 't': {
        if (!w.floor || w.items.size() == 10) return false;
        add(w, s.charAt(1), last, null);
        return true;
      }
      case 'o': {
        if (last >= w.items.size() || !w.items.get(last).stands()) return false;
        if (w.items.size() == 10) return false;
        add(w, s.charAt(1), s.charAt(2) - '0', w.items.get(last));
        return true;
      }
      case 'p': {
        if (digit >= w.items.size() || !w.items.get(digit).stands()) return false;
        w.pull(w.items.get(digit), last);
        return true;
      }
      case 'f': {
        if (!w.floor) return false;
        w.pull(null, digit);
        return true;
      }
      case 'h': {
        if (digit >= w.items.size() || w.items.get(digit).stateNumber() == 2) return false;
        w.items.get(digit).state = "STANDS";
        w.items.get(digit).air = 0;
        return true;
      }
      default: {
        int n = Integer.parseInt(s.substring(1));
        if (n < 1 || n > 60 || w.minute + n > 999) return false;
        for (int i = 0; i < n; i++) w.minute(0);
        return true;
      }
    }
  }

  private static void add(World w, char kind, int figure, Item on) {
    Item item = new Item();
    item.kind = kind;
    item.figure = figure;
    item.on = on;
    w.items.add(item);
  }

  int thing(int thing, int what) {
    if (isNobody(thing)) return no(-1);
    if (what < 0 || what > 7) return no(-2);
    Item item = item(thing);
    int[] all = {KIND_LETTERS.indexOf(item.kind), item.figure,
        item.on == null ? -9 : world.items.indexOf(item.on), item.stateNumber(), item.air,
        world.habit(item), world.grip(item, item.kind), world.held(item) ? 1 : 0};
    return all[what];
  }

  int pulls(int thing, int speed) {
    if (isNobody(thing)) return no(-1);
    if (speed < 0) return no(-4);
    if (speed > 9) return no(-6);
    if (!item(thing).stands()) return no(-3);
    return world.pull(item(thing), speed).size();
  }

  int floor(int speed) {
    if (speed < 0) return no(-4);
    if (speed > 9) return no(-6);
    if (!world.floor) return no(-3);
    return world.pull(null, speed).size();
  }

  int lays() {
    if (world.floor) return no(-3);
    world.floor = true;
    return (int) world.standing().stream().filter(i -> i.on == null).count();
  }

  int setsUp(int thing) {
    if (isNobody(thing)) return no(-1);
    if (!item(thing).lies()) return no(-3);
    item(thing).state = "STANDS";
    item(thing).air = 0;
    return world.held(item(thing)) ? 1 : 0;
  }

  int turn(int thing, int kind, int figure) {
    if (isNobody(thing)) return no(-1);
    if (kind < 0 || kind > 5) return no(-2);
    if (figure < 0) return no(-4);
    if (figure > 9) return no(-6);
    int had = 10 * KIND_LETTERS.indexOf(item(thing).kind) + item(thing).figure;
    item(thing).kind = KIND_LETTERS.charAt(kind);
    item(thing).figure = figure;
    return had;
  }

  int minutes(int n) {
    if (n < 1) return no(-4);
    if (n > 60 || world.minute + n > 999) return no(-6);
    world = world.behind(n);
    return world.standing().size();
  }

  int behind(int thing, int n, int what) {
    if (isNobody(thing)) return no(-1);
    if (n < 0) return no(-4);
    if (n > 99) return no(-6);
    if (what < 0 || what > 2) return no(-2);
    World w = world.behind(n);
    int[] all = {w.items.get(thing).stateNumber(), w.items.get(thing).air, w.standing().size()};
    return all[what];
  }

  int falls(int thing) {
    if (isNobody(thing)) return no(-1);
    return world.falls(thing);
  }

  int first(int what) {
    if (what < 0 || what > 1) return no(-2);
    for (int n = 0; n <= 99; n++) {
      for (int i = 0; i < world.items.size(); i++) {
        if (item(i).stands() && world.falls(i) == n) return what == 0 ? i : n;
      }
    }
    return -9;
  }

  int allStand() {
    int most = 0;
    for (int n = 0; n <= 99; n++) {
      if (world.behind(n).bits("LIES") == world.bits("LIES")) most = n;
    }
    return most;
  }

  int tower(int thing, int what) {
    if (isNobody(thing)) return no(-1);
    if (what < 0 || what > 2) return no(-2);
    if (what == 1) {
      int bits = 0;
      for (int i = 0; i < world.items.size(); i++) {
        for (Item under = item(i).on; under != null; under = under.on) {
          if (under == item(thing)) bits |= 1 << i;
        }
      }
      return bits;
    }
    int height = 0;
    Item bottom = item(thing);
    while (bottom.on != null) {
      bottom = bottom.on;
      height++;
    }
    return what == 0 ? height : world.items.indexOf(bottom);
  }

  int leastSpeed(int thing) {
    if (isNobody(thing)) return no(-1);
    if (!item(thing).stands()) return no(-3);
    for (int speed = 0; speed <= 9; speed++) {
      World w = world.twin();
      if (w.pull(w.items.get(thing), speed).isEmpty()) return speed;
    }
    return -9;
  }

  int atOnce(int thing, int speed) {
    if (isNobody(thing)) return no(-1);
    if (speed < 0) return no(-4);
    if (speed > 9) return no(-6);
    if (!item(thing).stands()) return no(-3);
    World w = world.twin();
    w.pull(w.items.get(thing), speed);
    return w.bits("LIES") & ~world.bits("LIES");
  }

  int later(int thing, int speed, int n) {
    if (isNobody(thing)) return no(-1);
    if (speed < 0 || n < 0) return no(-4);
    if (speed > 9 || n > 99) return no(-6);
    if (!item(thing).stands()) return no(-3);
    World w = world.twin();
    w.pull(w.items.get(thing), speed);
    int once = w.bits("LIES") & ~world.bits("LIES");
    return w.behind(n).bits("LIES") & ~once & ~world.behind(n).bits("LIES");
  }

  int pullMost(int thing, int n, int what) {
    if (isNobody(thing)) return no(-1);
    if (n < 0) return no(-4);
    if (n > 30) return no(-6);
    if (what < 0 || what > 1) return no(-2);
    int best = -9;
    int which = -9;
    for (int set = 0; set < 1 << world.items.size(); set++) {
      if ((set >> thing & 1) == 1) continue;
      World w = world.twin();
      int pulled = 0;
      for (int i = 0; i < w.items.size(); i++) {
        if ((set >> i & 1) == 1 && w.items.get(i).stands()) {
          w.pull(w.items.get(i), 9);
          pulled |= 1 << i;
        }
      }
      if (!w.behind(n).items.get(thing).stands()) continue;
      int count = Integer.bitCount(pulled);
      if (count > best || count == best && pulled < which) {
        best = count;
        which = pulled;
      }
    }
    return what == 0 ? best : which;
  }

  int key(int n) {
    if (n < 0) return no(-4);
    if (n > 99) return no(-6);
    int best = -9;
    int fewest = 100;
    for (int i = 0; i < world.items.size(); i++) {
      if (!item(i).stands()) continue;
      World w = world.twin();
      w.pull(w.items.get(i), 9);
      int stand = w.behind(n).standing().size();
      if (stand < fewest) {
        fewest = stand;
        best = i;
      }
    }
    return best;
  }

  int prop(int n) {
    if (n < 0) return no(-4);
    if (n > 99) return no(-6);
    int standing = world.bits("STANDS");
    int best = -1;
    for (int set = 0; set < 1 << world.items.size(); set++) {
      if ((set & ~standing) != 0) continue;
      if (best >= 0 && Integer.bitCount(best) <= Integer.bitCount(set)) continue;
      World w = world.twin();
      for (int i = 0; i < w.items.size(); i++) w.items.get(i).propped = (set >> i & 1) == 1;
      if (w.behind(n).bits("STANDS") == standing) best = set;
    }
    return best;
  }

  int order(int a, int b, int c, int speed, int what) {
    if (isNobody(a) || isNobody(b) || isNobody(c) || a == b || a == c || b == c) return no(-1);
    if (speed < 0) return no(-4);
    if (speed > 9) return no(-6);
    if (what < 0 || what > 1) return no(-2);
    int[] told = {a, b, c};
    int best = -1;
    int most = -1;
    for (int i = 0; i < 3; i++) {
      for (int j = 0; j < 3; j++) {
        for (int k = 0; k < 3; k++) {
          if (i == j || j == k || i == k) continue;
          World w = world.twin();
          int[] turns = {told[i], told[j], told[k]};
          for (int m = 0; m < 10; m++) {
            if (m < 3 && w.items.get(turns[m]).stands()) w.pull(w.items.get(turns[m]), speed);
            w.minute(0);
          }
          if (w.standing().size() > most) {
            most = w.standing().size();
            best = 100 * i + 10 * j + k;
          }
        }
      }
    }
    return what == 0 ? best : most;
  }

  int floorFalls(int speed) {
    if (speed < 0) return no(-4);
    if (speed > 9) return no(-6);
    return world.floor ? world.twin().pull(null, speed).size() : -9;
  }

  int watched(int what) {
    if (what < 0 || what > 1) return no(-2);
    if (what == 0) {
      if (world.bits("LIES") == 0) return 0;
      return (int) world.standing().stream().filter(i -> i.kind == 'w').count();
    }
    return world.standing().stream().allMatch(i -> world.held(i)) ? 1 : 0;
  }

  int rebuild(int what) {
    if (what < 0 || what > 1) return no(-2);
    World w = world.twin();
    int least = -9;
    int how = 0;
    boolean more = true;
    while (more) {
      more = false;
      for (int i = 0; i < w.items.size(); i++) {
        World up = w.twin();
        up.items.get(i).state = "STANDS";
        if (w.items.get(i).lies() && up.held(up.items.get(i))) {
          if (how == 0) least = i;
          how++;
          w = up;
          more = true;
          break;
        }
      }
    }
    return what == 0 ? least : how;
  }

  long draught(int thing, int n, int t, int part) {
    int refusal = 0;
    if (isNobody(thing)) refusal = no(-1);
    else if (n < 0 || t < 2) refusal = no(-4);
    else if (n > 7 || t > 20) refusal = no(-6);
    else if (part < 0 || part > 1) refusal = no(-2);
    if (refusal != 0) return 4000000000000000000L - refusal;
    java.math.BigInteger above = odds(world, thing, n, t);
    java.math.BigInteger below = java.math.BigInteger.valueOf(t).pow(n);
    java.math.BigInteger common = above.gcd(below);
    return (part == 0 ? above : below).divide(common).longValueExact();
  }

  /** Of t to the n, in how many it STANDS. */
  private static java.math.BigInteger odds(World w, int thing, int n, int t) {
    if (n == 0) {
      return w.items.get(thing).stands() ? java.math.BigInteger.ONE : java.math.BigInteger.ZERO;
    }
    World calm = w.twin();
    calm.minute(0);
    World blown = w.twin();
    blown.minute(1);
    return odds(calm, thing, n - 1, t).multiply(java.math.BigInteger.valueOf(t - 1))
        .add(odds(blown, thing, n - 1, t));
  }

  int two(int a, int b, int n) {
    if (isNobody(a) || isNobody(b) || a == b) return no(-1);
    if (n < 0) return no(-4);
    if (n > 99) return no(-6);
    int[][] stand = new int[2][2];
    for (int x = 0; x < 2; x++) {
      for (int y = 0; y < 2; y++) {
        World w = world.twin();
        if (x == 1 && w.items.get(a).stands()) w.pull(w.items.get(a), 9);
        if (y == 1 && w.items.get(b).stands()) w.pull(w.items.get(b), 9);
        stand[x][y] = w.behind(n).standing().size();
      }
    }
    for (int x = 0; x < 2; x++) {
      for (int y = 0; y < 2; y++) {
        boolean oneBetter = stand[1 - x][y] > stand[x][y];
        boolean otherBetter = stand[x][1 - y] < stand[x][y];
        if (!oneBetter && !otherBetter) return 10 * x + y;
      }
    }
    return -9;
  }

  int whatWas(int thing, int what) {
    if (isNobody(thing)) return no(-1);
    if (what < 0 || what > 1) return no(-2);
    if (row.size() != world.items.size()) return no(-3);
    int bits = 0;
    for (int other = 0; other < (what == 0 ? 6 : 10); other++) {
      World w = world.twin();
      if (what == 0) w.items.get(thing).kind = KIND_LETTERS.charAt(other);
      if (what == 1) w.items.get(thing).figure = other;
      boolean so = true;
      for (int i = 0; i < row.size() && so; i++) {
        int falls = w.falls(i);
        so = row.get(i) == (falls == -9 ? 99 : falls);
      }
      if (so) bits |= 1 << other;
    }
    return bits;
  }

  int row(int v) {
    if (v < 0) return no(-4);
    if (v > 99 || row.size() == 16) return no(-6);
    row.add(v);
    return row.size();
  }

  int judge() {
    int answer = -9;
    for (int i = row.size() - 1; i >= 0; i--) {
      if (world.behind(i).standing().size() != row.get(i)) answer = i;
    }
    row.clear();
    return answer;
  }

  int clear() {
    int had = row.size();
    row.clear();
    return had;
  }

  int lots(int n, int z, int what) {
    if (n < 1) return no(-4);
    if (n > 20) return no(-6);
    if (what < 0 || what > 1) return no(-2);
    if (world.items.isEmpty()) return no(-3);
    int[] seed = {z};
    int stand = 0;
    int lie = 0;
    for (int r = 0; r < n; r++) {
      World w = world.twin();
      for (int m = 0; m < 5; m++) {
        Item item = w.items.get(draw(seed, w.items.size()));
        int speed = draw(seed, 10);
        if (item.stands()) w.pull(item, speed);
        w.minute(0);
      }
      stand += Integer.bitCount(w.bits("STANDS"));
      lie += Integer.bitCount(w.bits("LIES"));
    }
    return what == 0 ? stand : lie;
  }

  private static int draw(int[] seed, int below) {
    seed[0] = (int) ((long) seed[0] * 1664525L + 1013904223L);
    long unsigned = seed[0] & 0xffffffffL;
    long withoutSign = unsigned % (1L << 31);
    return (int) (withoutSign / 256 % below);
  }

  int image() {
    image = world.twin();
    return world.minute;
  }

  int on() {
    if (image == null) return no(-3);
    world = image.twin();
    return world.minute;
  }

  int count(int what) {
    if (what >= 11 && what <= 16) return refused[what - 10];
    if (what < 0 || what > 7) return -9;
    int[] all = {world.items.size(), world.minute, world.bits("STANDS"), world.bits("LIES"),
        world.bits("GONE"), world.floor ? 1 : 0, row.size(), text.length()};
    return all[what];
  }
}
