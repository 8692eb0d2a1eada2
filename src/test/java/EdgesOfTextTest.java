// THE TAPE and THE TEXT of section 1 of the document, and promises 24 to 26.
public final class EdgesOfTextTest {
  private static final Told T = new Told();
  private static final String[] KINDS = {"guest", "minder", "vague", "deaf", "daughter", "magpie"};
  private static final String[] MARKS = {"sewn", "ironed", "pen"};
  private static final String SIX = "6 x person(0)\n";

  /** A text that stands, and what is asked after it. */
  private static void stands(String sentence, String before, String text, int items, String then) {
    T.run(sentence, before + "\ntape \"" + text + "\"\ncount(2) = " + text.length() + "\nhome() = " + items
        + "\ncount(2) = 0\nstatus(-1) = 0\n" + then);
  }

  /** A text with a fault at a place: it's no finding, and nothing changes but that the tape is empty. */
  private static void fault(String sentence, String before, String text, int place) {
    String after = "\ncount(2) = 0\nstatus(-1) = 0\nnow(1) = 60\n";
    String people = "count(0) = " + peopleIn(before) + "\ncount(1) = " + garmentsIn(before) + "\nnow(4) = " + ((1 << peopleIn(before)) - 1);
    T.run(sentence, before + "\ntape \"" + text + "\"\nhome() = " + (-1 - place) + after + people);
  }

  private static int peopleIn(String before) {
    return counted(before, "person");
  }

  private static int garmentsIn(String before) {
    return counted(before, "garment");
  }

  private static int counted(String before, String call) {
    java.util.regex.Matcher m = java.util.regex.Pattern.compile("(?:(\\d+) x )?" + call + "\\(").matcher(before);
    int all = 0;
    while (m.find()) all += m.group(1) == null ? 1 : Integer.parseInt(m.group(1));
    return all;
  }

  private static void tape() {
    T.run("24: how many it has; THE TAPE (bytes, at most 120): FULL", """
        30 x feed(0, 4) | count(2) = 120 | feed(0, 1) = FULL | feed(0, 4) = FULL | feed(MAX, 2) = FULL | wipe() = 120 | wipe() = 0 | feed(0, 1) = 1
        """);
    for (int n = 1; n <= 4; n++) {
      int room = n - 1;
      StringBuilder rows = new StringBuilder((120 - n) + " x feed(32, 1)\ncount(2) = " + (120 - n) + "\n");
      for (int more = n + 1; more <= 4; more++) rows.append("feed(32, ").append(more).append(") = FULL\n");
      rows.append("feed(32, ").append(n).append(") = 120\nfeed(32, 1) = FULL\n");
      T.run("24: FULL, with room for " + n, rows.toString());
      if (room > 0) {
        T.run("24: FULL, with room for " + room, (120 - room) + " x feed(32, 1)\nfeed(32, " + n + ") = FULL\ncount(2) = " + (120 - room));
      }
    }
    // 0x68656174 is heat, 0x203233 " 23"; what stands above the n lowest bytes is left out.
    T.run("24: the n lowest bytes of a number, the highest of these first", """
        feed(1751474548, 4) = 4 | feed(2110003, 3) = 7 | home() = 1 | now(1) = 23
        """);
    T.run("24: the n lowest bytes of a number, the highest of these first", ("feed(@, 1) = 1 | feed(#, 2) = 3 | feed($, 3) = 6 | home() = 1 | now(1) = 31")
        .replace("@", "" + 0x33333368).replace("#", "" + 0x33336561).replace("$", "" + 0x39743331));
    T.run("24: of a number below 0", "feed(" + 0xFFFFFF68 + ", 1) | feed(" + 0x80006561 + ", 2) | feed(" + 0xFF743331 + ", 3) | home() = 1 | now(1) = 31");
    T.run("24: MIN and MAX", "feed(MIN, 4) = 4 | feed(MAX, 4) = 8 | home() = -1 | feed(MIN, 1) = 1 | home() = -1 | feed(MAX, 1) = 1 | home() = -1");
    T.run("24: behind it", "tape \"heat 2\" | feed(53, 1) = 7 | home() = 1 | now(1) = 25");
    T.run("25: THE TAPE is empty: how many it had", "wipe() = 0 | feed(0, 1) | wipe() = 1 | count(2) = 0 | tape \"heat 21\" | wipe() = 7 | home() = -1 | now(1) = 60");
  }

  private static void atTheTapesEnd() {
    String[] last = {"guest", "guest band 2", "heat 90", "guest ", "dies 0"};
    for (String text : last) {
      StringBuilder blanks = new StringBuilder("guest;");
      while (blanks.length() + text.length() < 120) blanks.append(' ');
      stands("a text of 120 bytes", "", blanks + text, 2, "");
    }
    fault("how many bytes there are if it ends too early (120)", "person(0)", "heat 30" + " ".repeat(112) + ";", 120);
    fault("how many bytes there are if it ends too early (120)", "person(0)", " ".repeat(116) + "heat", 120);
    fault("how many bytes there are if it ends too early (120)", "", " ".repeat(120), 120);
    fault("a byte that begins no TOKEN, the 120th", "person(0)", "heat 30" + " ".repeat(112) + "!", 119);
    T.run("a text ends where the tape does, whatever stood there before", """
        tape "heat 305" | wipe() = 8 | tape "heat 30" | home() = 1 | now(1) = 30
        tape "guests" | wipe() | tape "guest" | home() = 1 | tape "heat 31;;" | home() = -9 | tape "heat 32" | home() = 1 | now(1) = 32
        """);
  }

  private static void kinds() {
    for (int kind = 0; kind < 6; kind++) {
      String word = KINDS[kind];
      stands("the name of a KIND: one more", "", word, 1, "count(0) = 1 | of(0, 0) = " + kind + " | of(0, 1) = 0 | of(0, 2) = 1000 | of(0, 3) = 0");
      for (int band = 0; band <= 2; band++) {
        stands("perhaps band and a NUMBER (0 to 2)", "", word + " band " + band, 1, "of(0, 0) = " + kind + " | of(0, 1) = " + band);
      }
      fault("band and a NUMBER (0 to 2)", "", word + " band 3", word.length() + 6);
      fault("band and a NUMBER (0 to 2)", "", word + " band 10", word.length() + 6);
      fault("another WORD: one letter more", "", word + "s", 0);
      fault("another WORD: one letter less", "", word.substring(0, word.length() - 1), 0);
      fault("another WORD: another letter", "", word.substring(1), 0);
      fault("the name of a KIND for a 7th: its own", SIX, word, 0);
      fault("the name of a KIND for a 7th: its own", SIX, "  " + word + " band 9", 2);
      fault("the name of a KIND for a 7th: its own", "5 x person(0)", "guest;" + word + ";guest", 6);
      stands("(at most 6)", "5 x person(0)", word, 1, "count(0) = 6 | of(5, 0) = " + kind + " | of(5, 1) = 2");
    }
    stands("(which initials: at first the rest of its number by 3)", "", "guest;guest;guest;guest;guest;guest band 0", 6,
        "of(0, 1) = 0 | of(1, 1) = 1 | of(2, 1) = 2 | of(3, 1) = 0 | of(4, 1) = 1 | of(5, 1) = 0 | now(4) = 63");
    fault("the name of a KIND for a 7th: its own", "", "guest;minder;vague;deaf;daughter;magpie;guest", 40);
  }

  private static void marks() {
    String ten = "person(0) | 10 x garment(0, 0)";
    for (int mark = 0; mark < 3; mark++) {
      String word = MARKS[mark];
      int at = word.length() + 1;
      stands("sewn, ironed or pen, a NUMBER: one more garment", SIX, word + " 5", 1,
          "garmentOf(0, 0) = 5 | garmentOf(0, 1) = " + mark + " | garmentOf(0, 2) = 99 | garmentOf(0, 3) = 5");
      stands("a NUMBER (a person there by then: OWNER)", "", "guest;" + word + " 0", 2, "garmentOf(0, 0) = 0");
      stands("perhaps name and a NUMBER (0 to 99)", SIX, word + " 1 name 0", 1, "garmentOf(0, 2) = 0 | garmentOf(0, 3) = 1");
      stands("perhaps name and a NUMBER (0 to 99)", SIX, word + " 1 name 99", 1, "garmentOf(0, 2) = 99");
      stands("perhaps heap (on it)", SIX, word + " 1 heap", 1, "garmentOf(0, 0) = 1 | garmentOf(0, 2) = 99 | garmentOf(0, 3) = -1");
      stands("perhaps name and a NUMBER, perhaps heap", SIX, word + " 1 name 7 heap", 1, "garmentOf(0, 2) = 7 | garmentOf(0, 3) = -1");
      fault("a person there by then", SIX, word + " 6", at);
      fault("a person there by then", "", word + " 0", at);
      fault("a person there by then: one that comes later isn't", "", word + " 0;guest", at);
      fault("a person there by then: one that comes later isn't", "person(0)", word + " 1;guest", at);
      fault("name and a NUMBER (0 to 99)", SIX, word + " 1 name 100", at + 7);
      fault("it ends too early", SIX, word, at - 1);
      fault("it ends too early", SIX, word + " ", at);
      fault("it ends too early", SIX, word + " 1 name", at + 6);
      fault("can't stand there", SIX, word + ";", at - 1);
      fault("can't stand there", SIX, word + " heap", at);
      fault("can't stand there", SIX, word + " guest", at);
      fault("can't stand there", SIX, word + " 1 name heap", at + 7);
      fault("can't stand there", SIX, word + " 1 name;", at + 6);
      fault("can't stand there: heap before name", SIX, word + " 1 heap name 5", at + 7);
      fault("can't stand there: heap twice", SIX, word + " 1 heap heap", at + 7);
      fault("can't stand there: name twice", SIX, word + " 1 name 5 name 5", at + 9);
      fault("can't stand there: two owners", SIX, word + " 1 1", at + 2);
      fault("can't stand there: band", SIX, word + " 1 band 1", at + 2);
      fault("can't stand there: two ITEMS without ;", SIX, word + " 1 pen 1", at + 2);
      fault("that of a MARK for an 11th: its own", ten, word, 0);
      fault("that of a MARK for an 11th: its own", ten, "heat 30; " + word + " 9 name 100", 9);
      fault("that of a MARK for an 11th: its own", "person(0) | 9 x garment(0, 0)", "pen 0;" + word + " 0", 6);
      stands("(at most 10)", "person(0) | 9 x garment(0, 0)", word + " 0", 1, "count(1) = 10 | garmentOf(9, 1) = " + mark);
      fault("another WORD: one letter more", SIX, word + "e 0", 0);
      fault("another WORD: one letter less", SIX, word.substring(0, word.length() - 1) + " 0", 0);
    }
  }

  private static void heatAndDies() {
    stands("heat and a NUMBER (20 to 90)", "", "heat 20", 1, "now(1) = 20");
    stands("heat and a NUMBER (20 to 90)", "", "heat 90", 1, "now(1) = 90");
    stands("ITEMS come in their order", "", "heat 20;heat 90;heat 33", 3, "now(1) = 33");
    for (String n : new String[] {"19", "91", "0", "00", "999", "1000", "2147483668", "4294967356", "18446744073709551676", "100000000000000000020"}) {
      fault("heat and a NUMBER (20 to 90)", "person(0)", "heat " + n, 5);
    }
    stands("dies, a NUMBER (a person there by then): GONE", SIX, "dies 5", 1, "of(5, 3) = 1 | now(4) = 31");
    stands("dies, a NUMBER (a person there by then): GONE", SIX, "dies 0", 1, "of(0, 3) = 1 | now(4) = 62");
    stands("dies, one that is GONE", SIX + "set(2, 3, 1)", "dies 2;dies 2", 2, "of(2, 3) = 1 | now(4) = 59");
    stands("dies, one of this text", "", "guest;dies 0", 2, "of(0, 3) = 1");
    stands("one that died may own", "", "guest;dies 0;pen 0", 3, "garmentOf(0, 3) = 0 | now(3) = 1");
    fault("a person there by then", SIX, "dies 6", 5);
    fault("a person there by then", "", "dies 0", 5);
    fault("a person there by then", "", "dies 0;guest", 5);
    fault("it ends too early", SIX, "dies", 4);
    fault("it ends too early", SIX, "heat", 4);
    fault("it ends too early", SIX, "heat  ", 6);
    fault("can't stand there", SIX, "dies heat", 5);
    fault("can't stand there", SIX, "heat heat", 5);
    fault("can't stand there", SIX, "heat;", 4);
    fault("can't stand there", SIX, "heat 30 31", 8);
    fault("can't stand there", SIX, "dies 0 1", 7);
    fault("can't stand there", SIX, "heat 30 heap", 8);
    fault("can't stand there", SIX, "dies 0 band 1", 7);
  }

  private static void tokens() {
    stands("TOKENS, each as long as can be; blanks may stand between", "", "guest band2;pen0name7heap;heat21;dies0", 4,
        "of(0, 1) = 2 | garmentOf(0, 2) = 7 | garmentOf(0, 3) = -1 | now(1) = 21 | of(0, 3) = 1");
    stands("blanks may stand between, before and behind", "", "   guest   band   1   ;   sewn   0   name   5   heap   ", 2,
        "of(0, 1) = 1 | garmentOf(0, 2) = 5 | garmentOf(0, 3) = -1");
    stands("NUMBERS (digits)", SIX, "heat 0000000000000000000000000000000000000045;pen 000 name 0099", 2,
        "now(1) = 45 | garmentOf(0, 0) = 0 | garmentOf(0, 2) = 99");
    fault("blanks part TOKENS", "person(0)", "heat 3 0", 5);
    fault("blanks part TOKENS", "", "gu est", 0);
    fault("WORDS as long as can be", "", "guestband 1", 0);
    fault("WORDS as long as can be", "person(0)", "pen 0 nameheap", 6);
    fault("WORDS as long as can be", "person(0)", "pen 0 heapname 5", 6);
    fault("a NUMBER that stands for no item", "person(0)", "30", 0);
    fault("a NUMBER that stands for no item", "person(0)", "heat 30;9", 8);
    fault("SIGN ;", "", ";", 0);
    fault("SIGN ;", "", ";guest", 0);
    fault("SIGN ;", "", "guest;;guest", 6);
    fault("SIGN ;", "", "guest ; ; guest", 8);
    fault("it ends too early", "", "guest;", 6);
    fault("it ends too early", "", "guest;  ", 8);
    fault("it ends too early", "", "", 0);
    fault("it ends too early", "", " ", 1);
    fault("it ends too early", "", "guest band", 10);
    fault("it ends too early", "", "guest band  ", 12);
    fault("can't stand there", "", "guest guest", 6);
    fault("can't stand there", "", "guest 1", 6);
    fault("can't stand there", "", "guest band band", 11);
    fault("can't stand there", "", "guest band;", 10);
    fault("can't stand there", "", "guest band 1 band 1", 13);
    fault("can't stand there", "", "guest heap", 6);
    fault("can't stand there", "", "guest name 5", 6);
    for (String word : new String[] {"band", "name", "heap", "a", "z", "kind", "person"}) fault("another WORD", "person(0)", word + " 1", 0);
    fault("the first TOKEN that can't stand there", SIX, "pen 9 name 100 heap heap;xx", 4);
    fault("what stood before a FAULT doesn't come", "person(0)", "heat 30;guest;pen 0;dies 0;sewn 1 name 3;guest band 7", 52);
    String odd = "heat 30;guest;dies 0";
    fault("a byte that begins no TOKEN behind it all", "person(0)", odd + "?", 20);
  }

  /** Each letter of each word counts, and so does how long it is. */
  private static void letters() {
    String[] texts = {"guest", "minder", "vague", "deaf", "daughter", "magpie", "sewn 0", "ironed 0", "pen 0", "heat 30", "dies 0", "guest band 1",
        "pen 0 name 5", "pen 0 heap"};
    for (String text : texts) {
      for (int i = 0; i < text.length(); i++) {
        char c = text.charAt(i);
        if (c < 'a' || c > 'z') continue;
        int start = text.lastIndexOf(' ', i) + 1;
        String before = text.substring(0, i);
        String behind = text.substring(i + 1);
        fault("another WORD", "person(0)", before + (c == 'a' ? 'z' : 'a') + behind, start);
        fault("another WORD", "person(0)", before + c + c + behind, start);
        fault("another WORD", "person(0)", before + behind, start);
        fault("letters a to z: none of A to Z", "person(0)", before + Character.toUpperCase(c) + behind, start);
      }
    }
  }

  /** A word cut short is another one, though the rest of it lay behind it on the tape before. */
  private static void afterLongerTexts() {
    String[] texts = {"guest", "minder", "vague", "deaf", "daughter", "magpie", "sewn 0", "ironed 0", "pen 0", "heat 30", "dies 0", "guest band 1",
        "pen 0 name 5", "pen 0 heap"};
    for (String text : texts) {
      for (int i = 1; i < text.length(); i++) {
        if (text.charAt(i) < 'a' || text.charAt(i) > 'z' || text.charAt(i - 1) == ' ') continue;
        int start = text.lastIndexOf(' ', i) + 1;
        String cut = text.substring(0, i);
        T.run("THE TAPE is empty then", "person(0) | tape \"" + text + "\" | home() = 1 | tape \"" + cut + "\" | home() = " + (-1 - start));
        T.run("THE TAPE is empty", "person(0) | tape \"" + text + "\" | wipe() = " + text.length() + " | tape \"" + cut + "\" | home() = " + (-1 - start));
      }
    }
    T.run("THE TAPE is empty: NUMBERS", """
        person(0) | tape "heat 30" | home() = 1 | tape "heat 3" | home() = -6 | tape "pen 0 name 55 heap" | home() = 1 | tape "pen 0 name 5" | home() = 1
        garmentOf(0, 2) = 55 | garmentOf(1, 2) = 5 | garmentOf(0, 3) = -1 | garmentOf(1, 3) = 0
        """);
  }

  /** Each byte there is, as an item's first, right behind a word, and right behind a number. */
  private static void bytes() {
    for (int b = 0; b <= 255; b++) {
      boolean letter = b >= 'a' && b <= 'z';
      boolean digit = b >= '0' && b <= '9';
      if (b != '|' && b != '\n') {
        String own = "" + (char) b;
        fault("byte " + b + " alone", "", own, b == ' ' ? 1 : 0);
        if (b == ' ') continue;
        fault("byte " + b + " behind a word", "", "guest" + own, letter ? 0 : b == ';' ? 6 : 5);
        fault("byte " + b + " behind a number", "person(0)", "heat 30" + own, digit ? 5 : b == ';' ? 8 : 7);
      } else {
        T.run("byte " + b, "feed(" + b + ", 1) | home() = -1 | tape \"guest\" | feed(" + b + ", 1) | home() = -6 | count(0) = 0 | tape \"heat 30\" | feed("
            + b + ", 1) | home() = -8 | now(1) = 60");
      }
    }
  }

  private static void items() {
    stands("26: whose ITEMS come to what there is: how many ITEMS", "person(2) | garment(0, 1) | weeks(1)", "guest;sewn 1;heat 50", 3,
        "count(0) = 2 | of(0, 0) = 2 | of(1, 0) = 0 | of(1, 1) = 1 | count(1) = 2 | garmentOf(0, 1) = 1 | garmentOf(1, 0) = 1 | now(0) = 1 | now(1) = 50");
    stands("26: a text of many ITEMS", "person(0)", "dies 0;".repeat(16) + "dies 0", 17, "of(0, 3) = 1");
    T.run("26: With a FAULT: nothing changes but that THE TAPE is empty; no finding", Told.WARD + """
        wipe() | now(0) = 1 | count(3) = 848 | tape "heat 30;dies 0;sewn 0" | home() = -16 | count(2) = 0
        status(-1) = 0 | now(1) = 72 | now(4) = 31 | count(1) = 10 | count(3) = 848 | home() = -1
        """);
  }

  public static void main(String[] args) {
    tape();
    atTheTapesEnd();
    kinds();
    marks();
    heatAndDies();
    tokens();
    letters();
    afterLongerTexts();
    bytes();
    items();
    T.end();
  }
}
