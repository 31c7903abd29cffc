import java.lang.reflect.Constructor;
import java.lang.reflect.Field;
import java.lang.reflect.Member;
import java.lang.reflect.Method;
import java.lang.reflect.Modifier;
import java.util.Arrays;
import java.util.Set;
import java.util.TreeSet;
import java.util.stream.Collectors;

/** The public face, these members and no others; and one object used for 512 calls. */
public final class FaceTest {
  private static final Check CHECK = new Check();
  private static final String FACE = """
      public PulledFromUnder()
      public int letter(int)
      public int room()
      public int thing(int, int)
      public int pulls(int, int)
      public int floor(int)
      public int lays()
      public int setsUp(int)
      public int turn(int, int, int)
      public int minutes(int)
      public int behind(int, int, int)
      public int falls(int)
      public int first(int)
      public int allStand()
      public int tower(int, int)
      public int leastSpeed(int)
      public int atOnce(int, int)
      public int later(int, int, int)
      public int pullMost(int, int, int)
      public int key(int)
      public int prop(int)
      public int order(int, int, int, int, int)
      public int floorFalls(int)
      public int watched(int)
      public int rebuild(int)
      public long draught(int, int, int, int)
      public int two(int, int, int)
      public int whatWas(int, int)
      public int row(int)
      public int judge()
      public int clear()
      public int lots(int, int, int)
      public int image()
      public int on()
      public int count(int)
      """;

  public static void main(String[] args) {
    theseMembersAndNoOthers();
    theClassItself();
    classesInside();
    refusedFiveHundredTimes();
    changedFiveHundredTimes();
    toldFiveHundredLetters();
    CHECK.end();
  }

  private static void theseMembersAndNoOthers() {
    Set<String> want = new TreeSet<>(Arrays.asList(FACE.strip().split("\n")));
    Set<String> got = new TreeSet<>();
    for (Constructor<?> made : PulledFromUnder.class.getDeclaredConstructors()) {
      got.add(signature(made, "", made.getParameterTypes()));
    }
    for (Method method : PulledFromUnder.class.getDeclaredMethods()) {
      if (!Modifier.isPrivate(method.getModifiers())) {
        String type = method.getReturnType().getSimpleName() + " ";
        got.add(signature(method, type, method.getParameterTypes()));
      }
    }
    for (String member : want) {
      CHECK.due(member + " is there:", got.contains(member) ? 1 : 0, 1);
    }
    got.removeAll(want);
    for (String member : got) {
      CHECK.due(member + " is no member of the face:", 1, 0);
    }
    for (Field field : PulledFromUnder.class.getDeclaredFields()) {
      int isPrivate = Modifier.isPrivate(field.getModifiers()) ? 1 : 0;
      CHECK.due(field.getName() + " is private:", isPrivate, 1);
    }
  }

  private static String signature(Member member, String type, Class<?>[] parameters) {
    String told = Arrays.stream(parameters).map(Class::getSimpleName)
        .collect(Collectors.joining(", "));
    String modifiers = Modifier.toString(member.getModifiers());
    return modifiers + " " + type + member.getName() + "(" + told + ")";
  }

  private static void theClassItself() {
    Class<?> face = PulledFromUnder.class;
    CHECK.due("public and final:", face.getModifiers(), Modifier.PUBLIC | Modifier.FINAL);
    CHECK.due("without a package:", face.getPackageName().length(), 0);
    CHECK.due("of no other class:", face.getSuperclass() == Object.class ? 1 : 0, 1);
    CHECK.due("of no interface:", face.getInterfaces().length, 0);
  }

  private static void classesInside() {
    for (Class<?> inside : PulledFromUnder.class.getDeclaredClasses()) {
      int modifiers = inside.getModifiers();
      boolean seenOutside = Modifier.isPublic(modifiers) || Modifier.isProtected(modifiers);
      CHECK.due(inside + " is not seen outside:", seenOutside ? 1 : 0, 0);
      CHECK.due(inside + " is static:", Modifier.isStatic(modifiers) ? 1 : 0, 1);
    }
  }

  /** 511 calls, and the 512th counts them. */
  private static void refusedFiveHundredTimes() {
    PulledFromUnder x = new PulledFromUnder();
    for (int call = 1; call <= 511; call++) {
      CHECK.due("refused", x.lays(), -3);
    }
    CHECK.due("the 512th call", x.count(13), 511);
  }

  /** A ROOM of 10 calls, the IMAGE, 100 times 5 calls; the one behind them is the 512th. */
  private static void changedFiveHundredTimes() {
    PulledFromUnder x = Check.told("tt9;ot90;");
    CHECK.due("image", x.image(), 0);
    for (int time = 1; time <= 100; time++) {
      CHECK.due("pulls", x.pulls(0, 8), 1);
      CHECK.due("it LIES", x.count(3), 2);
      CHECK.due("it is set up", x.setsUp(1), 0);
      int n = 3 + time % 2;
      CHECK.due("behind 4 MINUTES it LIES, behind 3 not yet", x.minutes(n), n == 3 ? 1 : 0);
      CHECK.due("on", x.on(), 0);
    }
    CHECK.due("the 512th call", x.count(2), 3);
  }

  /** 100 times 4 letters and a ROOM, 12 calls more; the 512th would go past MINUTE 999. */
  private static void toldFiveHundredLetters() {
    PulledFromUnder x = new PulledFromUnder();
    for (int time = 1; time <= 100; time++) {
      CHECK.due("a ROOM", Check.tell(x, time <= 10 ? "tt9;" : "m10;"), 1);
    }
    for (int call = 501; call <= 510; call++) {
      CHECK.due("a MINUTE", x.minutes(9), 10);
    }
    CHECK.due("MINUTE", x.count(1), 990);
    CHECK.due("the 512th call", x.minutes(10), -6);
  }
}
