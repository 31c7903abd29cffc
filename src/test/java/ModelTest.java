/** Long runs of calls by lot, each answered by the class and by the model. */
public final class ModelTest {
  private static final String[] NAMES = {"letter", "room", "thing", "pulls", "floor", "lays",
      "setsUp", "turn", "minutes", "behind", "falls", "first", "allStand", "tower", "leastSpeed",
      "atOnce", "later", "pullMost", "key", "prop", "order", "floorFalls", "watched", "rebuild",
      "draught", "two", "whatWas", "row", "judge", "clear", "lots", "image", "on", "count"};
  private static final int[] ODD = {-1, -2, Integer.MIN_VALUE, Integer.MAX_VALUE, 10, 11, 16, 17,
      20, 21, 30, 31, 60, 61, 96, 99, 100, 255, 256, 999, 1000, -9};
  private static long lot = 20261118;
  private static final int[] RIGHT = new int[NAMES.length];

  public static void main(String[] args) {
    int runs = args.length > 0 ? Integer.parseInt(args[0]) : 150;
    if (args.length > 1) {
      lot = Long.parseLong(args[1]);
    }
    for (int run = 0; run < runs; run++) {
      if (!runAgrees(run)) {
        System.exit(1);
      }
    }
    for (int i = 0; i < NAMES.length; i++) {
      if (RIGHT[i] < runs) {
        System.out.println(NAMES[i] + " was answered only " + RIGHT[i] + " times");
        System.exit(1);
      }
    }
    System.out.println(runs + " runs agree");
  }

  private static int draw(int below) {
    lot = lot * 6364136223846793005L + 1442695040888963407L;
    return (int) ((lot >>> 33) % below);
  }

  private static boolean runAgrees(int run) {
    PulledFromUnder x = new PulledFromUnder();
    Model m = new Model();
    StringBuilder said = new StringBuilder();
    for (int call = 0; call < 300; call++) {
      boolean same = draw(9) == 0 || m.world.items.isEmpty() && draw(3) > 0
          ? roomAgrees(x, m, said) : callAgrees(x, m, said);
      if (!same) {
        System.out.println("run " + run + ":" + said);
        return false;
      }
    }
    return true;
  }

  private static boolean roomAgrees(PulledFromUnder x, Model m, StringBuilder said) {
    String text = someText(m.world.items.size());
    for (int i = 0; i < text.length(); i++) {
      if (x.letter(text.charAt(i)) != m.letter(text.charAt(i))) {
        return false;
      }
    }
    said.append("\n\"").append(text).append('"');
    return draw(30) == 0 || answersAgree(x, m, 1, new int[5], said);
  }

  private static String someText(int things) {
    StringBuilder text = new StringBuilder();
    int statements = 1 + draw(6);
    int known = things;
    for (int i = 0; i < statements; i++) {
      char kind = Model.KIND_LETTERS.charAt(draw(6));
      int thing = draw(15) == 0 ? draw(10) : draw(Math.max(1, Math.min(10, known)));
      int form = known == 0 ? 0 : draw(known < 9 ? 9 : 36);
      known += form < 5 ? 1 : 0;
      switch (form) {
        case 0: case 1: text.append('t').append(kind).append(draw(10)); break;
        case 2: case 3: case 4:
          text.append('o').append(kind).append(draw(10)).append(thing); break;
        case 5: text.append('p').append(thing).append(draw(10)); break;
        case 6: text.append('f').append(draw(10)); break;
        case 7: text.append('h').append(thing); break;
        default:
          text.append('m').append(draw(9) == 0 ? draw(10) : 0);
          text.append(draw(10));
      }
      text.append(';');
    }
    if (draw(12) == 0) {
      text.setCharAt(draw(text.length()), "tophfm;0w9z".charAt(draw(11)));
    }
    if (draw(20) == 0) {
      text.setLength(draw(text.length() + 1));
    }
    return text.toString();
  }

  private static int number(int below) {
    return draw(25) == 0 ? ODD[draw(ODD.length)] : draw(below);
  }

  private static int who(Model m) {
    int things = m.world.items.size();
    return draw(25) == 0 ? ODD[draw(ODD.length)] : draw(Math.max(1, things));
  }

  private static boolean callAgrees(PulledFromUnder x, Model m, StringBuilder said) {
    int call = draw(NAMES.length);
    if (call == 3 || call == 4) {
      call = draw(3) == 0 ? call : 7;
    }
    if (call == 32) {
      call = draw(2) == 0 ? call : 6;
    }
    int[] a = {who(m), who(m), who(m), number(11), number(3)};
    switch (call) {
      case 0: a[0] = draw(6) == 0 ? number(256) : ODD[draw(ODD.length)]; break;
      case 2: a[1] = number(9); break;
      case 3: case 15: a[1] = number(10); break;
      case 4: case 21: a[0] = number(10); break;
      case 7: a[1] = number(6); a[2] = number(10); break;
      case 8: a[0] = number(12); break;
      case 9: a[1] = number(draw(2) == 0 ? 10 : 100); a[2] = number(3); break;
      case 11: case 22: case 23: a[0] = number(2); break;
      case 13: a[1] = number(3); break;
      case 16: a[1] = number(10); a[2] = number(draw(2) == 0 ? 10 : 100); break;
      case 17: a[1] = number(31); a[2] = number(2); break;
      case 18: case 19: a[0] = number(draw(2) == 0 ? 10 : 100); break;
      case 20: a[3] = number(10); a[4] = number(2); break;
      case 24: a[1] = number(8); a[2] = 2 + number(19); a[3] = number(2); break;
      case 25: a[2] = number(draw(2) == 0 ? 10 : 100); break;
      case 26: fillRow(x, m, a[0]); a[1] = number(2); break;
      case 27: a[0] = number(100); break;
      case 28: fillJudged(x, m); break;
      case 30: a[0] = number(22); a[1] = draw(Integer.MAX_VALUE) - draw(Integer.MAX_VALUE);
        a[2] = number(2); break;
      case 33: a[0] = number(18); break;
      default: break;
    }
    return answersAgree(x, m, call, a, said);
  }

  private static boolean answersAgree(PulledFromUnder x, Model m, int call, int[] a,
      StringBuilder said) {
    long got = of(x, call, a);
    long want = of(m, call, a);
    said.append("\n").append(NAMES[call]).append(java.util.Arrays.toString(a));
    said.append(" ").append(got);
    if (got != want) {
      said.append(", the model ").append(want);
      return false;
    }
    if (got >= 0 && got < 4000000000000000000L) {
      RIGHT[call]++;
    }
    return sameCounts(x, m, said);
  }

  private static boolean sameCounts(PulledFromUnder x, Model m, StringBuilder said) {
    for (int what = 0; what <= 17; what++) {
      if (x.count(what) != m.count(what)) {
        said.append("\ncount ").append(what).append(' ').append(x.count(what));
        said.append(", the model ").append(m.count(what));
        return false;
      }
    }
    return true;
  }

  /** Mostly a ROW that fits another KIND or another FIGURE of the THING (at times both). */
  private static void fillRow(PulledFromUnder x, Model m, int thing) {
    if (draw(6) == 0) {
      return;
    }
    x.clear();
    m.clear();
    Model.World w = m.world.twin();
    if (thing >= 0 && thing < w.items.size()) {
      int other = draw(5);
      if (other != 1 && other != 2) {
        w.items.get(thing).kind = Model.KIND_LETTERS.charAt(draw(6));
      }
      if (other != 3 && other != 4) {
        w.items.get(thing).figure = draw(10);
      }
    }
    for (int i = 0; i < w.items.size(); i++) {
      int falls = draw(40) == 0 ? draw(100) : w.falls(i);
      x.row(falls < 0 ? 99 : falls);
      m.row(falls < 0 ? 99 : falls);
    }
  }

  private static void fillJudged(PulledFromUnder x, Model m) {
    if (draw(6) == 0) {
      return;
    }
    x.clear();
    m.clear();
    int many = draw(17);
    for (int i = 0; i < many; i++) {
      int standing = draw(20) == 0 ? draw(11) : m.world.behind(i).standing().size();
      x.row(standing);
      m.row(standing);
    }
  }

  private static long of(PulledFromUnder x, int call, int[] a) {
    switch (call) {
      case 0: return x.letter(a[0]);
      case 1: return x.room();
      case 2: return x.thing(a[0], a[1]);
      case 3: return x.pulls(a[0], a[1]);
      case 4: return x.floor(a[0]);
      case 5: return x.lays();
      case 6: return x.setsUp(a[0]);
      case 7: return x.turn(a[0], a[1], a[2]);
      case 8: return x.minutes(a[0]);
      case 9: return x.behind(a[0], a[1], a[2]);
      case 10: return x.falls(a[0]);
      case 11: return x.first(a[0]);
      case 12: return x.allStand();
      case 13: return x.tower(a[0], a[1]);
      case 14: return x.leastSpeed(a[0]);
      case 15: return x.atOnce(a[0], a[1]);
      case 16: return x.later(a[0], a[1], a[2]);
      case 17: return x.pullMost(a[0], a[1], a[2]);
      case 18: return x.key(a[0]);
      case 19: return x.prop(a[0]);
      case 20: return x.order(a[0], a[1], a[2], a[3], a[4]);
      case 21: return x.floorFalls(a[0]);
      case 22: return x.watched(a[0]);
      case 23: return x.rebuild(a[0]);
      case 24: return x.draught(a[0], a[1], a[2], a[3]);
      case 25: return x.two(a[0], a[1], a[2]);
      case 26: return x.whatWas(a[0], a[1]);
      case 27: return x.row(a[0]);
      case 28: return x.judge();
      case 29: return x.clear();
      case 30: return x.lots(a[0], a[1], a[2]);
      case 31: return x.image();
      case 32: return x.on();
      default: return x.count(a[0]);
    }
  }

  private static long of(Model m, int call, int[] a) {
    switch (call) {
      case 0: return m.letter(a[0]);
      case 1: return m.room();
      case 2: return m.thing(a[0], a[1]);
      case 3: return m.pulls(a[0], a[1]);
      case 4: return m.floor(a[0]);
      case 5: return m.lays();
      case 6: return m.setsUp(a[0]);
      case 7: return m.turn(a[0], a[1], a[2]);
      case 8: return m.minutes(a[0]);
      case 9: return m.behind(a[0], a[1], a[2]);
      case 10: return m.falls(a[0]);
      case 11: return m.first(a[0]);
      case 12: return m.allStand();
      case 13: return m.tower(a[0], a[1]);
      case 14: return m.leastSpeed(a[0]);
      case 15: return m.atOnce(a[0], a[1]);
      case 16: return m.later(a[0], a[1], a[2]);
      case 17: return m.pullMost(a[0], a[1], a[2]);
      case 18: return m.key(a[0]);
      case 19: return m.prop(a[0]);
      case 20: return m.order(a[0], a[1], a[2], a[3], a[4]);
      case 21: return m.floorFalls(a[0]);
      case 22: return m.watched(a[0]);
      case 23: return m.rebuild(a[0]);
      case 24: return m.draught(a[0], a[1], a[2], a[3]);
      case 25: return m.two(a[0], a[1], a[2]);
      case 26: return m.whatWas(a[0], a[1]);
      case 27: return m.row(a[0]);
      case 28: return m.judge();
      case 29: return m.clear();
      case 30: return m.lots(a[0], a[1], a[2]);
      case 31: return m.image();
      case 32: return m.on();
      default: return m.count(a[0]);
    }
  }
}
