/** Promise 3: each letter and each STATEMENT at the edge of what a ROOM may be. */
public final class FaultTest {
  private static final Check CHECK = new Check();
  /** Two THINGS that STAND, one that LIES and one that is GONE, ahead of each STATEMENT. */
  private static final String AHEAD = "tt9;tt0;ot90;tp9;p01;p39;";
  /** MINUTE 960. */
  private static final String TO_960 =
      "m60;m60;m60;m60;m60;m60;m60;m60;m60;m60;m60;m60;m60;m60;m60;m60;";

  public static void main(String[] args) {
    nothingIsNoRoom();
    oneStatementIsEnough();
    eachFirstLetter();
    eachKindLetter();
    eachDigit();
    eachEnd();
    eachThatLacks();
    kindOneGoesFirst();
    theFirstFaultOfEachKind();
    fullOfLetters();
    tenThings();
    noSuchThingSoFar();
    standsLiesOrGone();
    theFloorThereOrGone();
    minutesOfOneStatement();
    lastMinute();
    aFaultLeavesAllAsItWas();
    CHECK.end();
  }

  private static void told(String ahead, String text, int want) {
    PulledFromUnder x = ahead.isEmpty() ? new PulledFromUnder() : Check.told(ahead);
    CHECK.due("\"" + ahead + "\", then \"" + text + "\"", Check.tell(x, text), want);
  }

  private static void nothingIsNoRoom() {
    told("", "", -1000);
    told("tt0;", "", -1000);
  }

  private static void oneStatementIsEnough() {
    for (String text : new String[] {"tt0;", "ot00;", "p00;", "f0;", "h0;", "m01;"}) {
      told("tt0;", text, 1);
    }
    told("tt0;", "tt0;ot00;p00;f0;h1;m01;", 6);
  }

  /** Of all letters 0 to 255 six begin a STATEMENT, at the first place and at a later one. */
  private static void eachFirstLetter() {
    for (char c = 0; c <= 255; c++) {
      boolean begins = "topfhm".indexOf(c) >= 0;
      told("", c + "", begins ? -1001 : -1000);
      told("", "tt0;" + c, begins ? -1005 : -1004);
    }
  }

  private static void eachKindLetter() {
    for (char c = 0; c <= 255; c++) {
      boolean isKind = "tgpcwb".indexOf(c) >= 0;
      told("", "t" + c + "0;", isKind ? 1 : -1001);
      told("tt0;", "o" + c + "00;", isKind ? 1 : -1001);
    }
  }

  /** Of all letters 0 to 255 ten are a digit, at each place where there is to be one. */
  private static void eachDigit() {
    String[] texts = {"tt#;", "ot#0;", "ot9#;", "p#9;", "p1#;", "f#;", "h#;", "m#1;", "m1#;"};
    for (String text : texts) {
      int place = text.indexOf('#');
      for (char c = 0; c <= 255; c++) {
        int got = Check.tell(new PulledFromUnder(), text.replace('#', c));
        boolean isDigit = c >= '0' && c <= '9';
        boolean isRight = isDigit ? got == 1 || got == -2000 : got == -1000 - place;
        CHECK.due(text + " with " + (int) c + " (" + got + "):", isRight ? 1 : 0, 1);
      }
    }
    told("", "tt0;", 1);
    told("", "tt9;", 1);
    told("", "f0;", 1);
    told("", "f9;", 1);
    told("", "m10;", 1);
    told("", "m19;", 1);
    String ten = "tt0;tt0;tt0;tt0;tt0;tt0;tt0;tt0;tt0;tt0;";
    told(ten, "p00;", 1);
    told(ten, "p09;", 1);
    told(ten, "p90;", 1);
    told(ten, "h0;", 1);
    told(ten, "h9;", 1);
    told("tt0;", "ot00;", 1);
    told("tt0;", "ot90;", 1);
  }

  /** Behind each STATEMENT there is ";" and nothing else. */
  private static void eachEnd() {
    for (String text : new String[] {"tt0", "ot00", "p00", "f0", "h0", "m01"}) {
      for (char c = 0; c <= 255; c++) {
        told("tt0;", text + c, c == ';' ? 1 : -1000 - text.length());
      }
    }
  }

  /** Of each STATEMENT each piece that is too short: the FAULT is at the end. */
  private static void eachThatLacks() {
    for (String text : new String[] {"tt0;", "ot00;", "p00;", "f0;", "h0;", "m01;"}) {
      for (int length = 1; length < text.length(); length++) {
        told("tt0;", text.substring(0, length), -1000 - length);
        told("", "tt0;" + text.substring(0, length), -1004 - length);
      }
    }
  }

  private static void kindOneGoesFirst() {
    told("", "p00;x", -1004);
    told("", "p00;p00;p00;m0", -1014);
    told("", "m00;;", -1004);
    told("", "f0;f0;tt", -1008);
    told("", "p00;tt0;", -2000);
  }

  private static void theFirstFaultOfEachKind() {
    told("", "tx0;ty0;", -1001);
    told("", "tt0;p10;p20;", -2004);
    told("", "tt0;p00;p00;f0;f0;", -2008);
  }

  private static void fullOfLetters() {
    String many = TO_960 + "m01;m01;m01;m01;m01;m01;m01;";
    CHECK.due("92 letters", many.length(), 92);
    told("", many + "tt0;", 24);
    told("", many + "tt0", -1095);
    told("", many + "tt0x", -1095);
    told("", many + "ot00", -1096);
    told("", many + "tt;0", -1094);
    told("", many + "p00;", -2092);
    told("", many + "m33;", -2092);
    told("", many + "m32;", 24);
    PulledFromUnder x = new PulledFromUnder();
    Check.tell(x, many + "tt0;");
    CHECK.due("there is place for letters again", x.letter('t'), 1);
  }

  private static void tenThings() {
    String eight = "tt0;tt0;tt0;tt0;tt0;tt0;tt0;tt0;";
    told(eight, "tt0;tt0;", 2);
    told(eight, "ot00;ot00;", 2);
    told(eight, "tt0;tt0;tt0;", -2008);
    told(eight, "tt0;tt0;ot00;", -2008);
    told(eight, "ot00;ot00;ot00;", -2010);
    told(eight + "tt0;", "tt0;", 1);
    told(eight + "tt0;tt0;", "tt0;", -2000);
    told(eight + "tt0;", "ot00;", 1);
    told(eight + "tt0;tt0;", "ot00;", -2000);
    // those that LIE or are GONE are THINGS, too
    told(eight + "tt0;tt1;p00;f0;", "ot01;", -2000);
    told("", eight + "tt0;tt0;p00;tt0;", -2044);
  }

  private static void noSuchThingSoFar() {
    told("", "ot00;", -2000);
    told("", "p00;", -2000);
    told("", "h0;", -2000);
    told("", "tt0;ot00;", 2);
    told("", "tt0;ot01;", -2004);
    told("", "tt0;p00;", 2);
    told("", "tt0;p10;", -2004);
    told("", "tt0;h0;", 2);
    told("", "tt0;h1;", -2004);
    told("tt0;", "tt0;ot01;ot02;", 3);
    told("tt0;", "tt0;ot01;ot03;", -2009);
    told("tt0;tt0;tt0;tt0;tt0;tt0;tt0;tt0;tt0;", "h9;tt0;", -2000);
    told("tt0;tt0;tt0;tt0;tt0;tt0;tt0;tt0;tt0;", "tt0;h9;", 2);
    told("tt0;tt0;tt0;tt0;tt0;tt0;tt0;tt0;tt0;", "tt0;p90;", 2);
    told("tt0;tt0;tt0;tt0;tt0;tt0;tt0;tt0;tt0;", "p90;", -2000);
  }

  /** Behind AHEAD 0 and 3 are GONE, 1 STANDS, 2, that was ON 0, LIES. */
  private static void standsLiesOrGone() {
    PulledFromUnder x = Check.told(AHEAD);
    CHECK.due("GONE", x.count(4), 9);
    CHECK.due("LIE", x.count(3), 4);
    CHECK.due("STAND", x.count(2), 2);
    told(AHEAD, "ot01;", 1);
    told(AHEAD, "ot02;", -2000);
    told(AHEAD, "ot03;", -2000);
    told(AHEAD, "ot00;", -2000);
    told(AHEAD, "p10;", 1);
    told(AHEAD, "p20;", -2000);
    told(AHEAD, "p30;", -2000);
    told(AHEAD, "h1;", 1);
    told(AHEAD, "h2;", 1);
    told(AHEAD, "h3;", -2000);
    told(AHEAD, "h0;", -2000);
    // behind all ahead of it in the same text
    told(AHEAD, "h2;ot02;", 2);
    told(AHEAD, "h2;p20;h2;", -2007);
    told(AHEAD, "p10;ot01;", -2004);
    told("", "tt9;f8;ot00;", -2007);
    told("", "tt9;f9;m03;ot00;", 4);
    told("", "tt9;f9;m04;ot00;", -2011);
    told("", "tt9;f9;m04;h0;ot00;", 5);
  }

  private static void theFloorThereOrGone() {
    told("f0;", "tt0;", -2000);
    told("f0;", "f0;", -2000);
    told("f0;", "m01;", 1);
    told("", "f0;f9;", -2003);
    told("", "f0;tt0;", -2003);
    told("", "tt0;f9;ot00;", 3);
    told("tt0;f9;", "ot00;", 1);
    PulledFromUnder x = Check.told("f0;");
    x.lays();
    CHECK.due("the FLOOR is there again", Check.tell(x, "tt0;f0;"), 2);
  }

  private static void minutesOfOneStatement() {
    told("", "m00;", -2000);
    told("", "m01;", 1);
    told("", "m60;", 1);
    told("", "m61;", -2000);
    told("", "m99;", -2000);
    told("", "m60;m60;m00;", -2008);
    CHECK.due("MINUTE", Check.told("m01;").count(1), 1);
    CHECK.due("MINUTE", Check.told("m09;m10;").count(1), 19);
    CHECK.due("MINUTE", Check.told("m60;").count(1), 60);
  }

  private static void lastMinute() {
    told(TO_960, "m39;", 1);
    told(TO_960, "m40;", -2000);
    told(TO_960, "m38;m01;", 2);
    told(TO_960, "m38;m02;", -2004);
    told(TO_960, "m39;m01;", -2004);
    CHECK.due("MINUTE", Check.told(TO_960 + "m39;").count(1), 999);
    PulledFromUnder x = Check.told(TO_960 + "m39;");
    CHECK.due("none goes by", Check.tell(x, "m01;"), -2000);
    CHECK.due("all else comes", Check.tell(x, "tt0;ot00;p00;h1;f0;"), 5);
    CHECK.due("MINUTE", x.count(1), 999);
  }

  /** Each kind of STATEMENT has come by the time of the FAULT; none of it stays. */
  private static void aFaultLeavesAllAsItWas() {
    String[] faults = {"tp9;p00;h2;f0;m09;p00;", "h1;m02;f9;tt0;", "f0;x", "ot31;m10;m61;", ""};
    for (String text : faults) {
      PulledFromUnder x = Check.told("tt9;og60;tp5;m02;", "p08;");
      x.image();
      x.row(3);
      PulledFromUnder twin = Check.told("tt9;og60;tp5;m02;", "p08;");
      twin.image();
      twin.row(3);
      CHECK.due("\"" + text + "\" is a FAULT:", Check.tell(x, text) <= -1000 ? 1 : 0, 1);
      CHECK.due("letters are no more", x.count(7), 0);
      CHECK.dueRefusals("a FAULT is not counted:", x, 0, 0, 0, 0, 0, 0);
      boolean same = Whole.of(x).equals(Whole.of(twin));
      CHECK.due("\"" + text + "\" leaves all as it was:", same ? 1 : 0, 1);
    }
  }
}
