// Each number that a call is given: every one within its bounds is taken; those just outside, and the smallest and the
// largest int, are refused, and change nothing but status(). Then, of findings that could both be told, which comes first.
public final class EdgesOfRangesTest {
  private static final Told T = new Told();
  private static final String WARD = Told.WARD;
  /** Room for one more person and one more garment; whatever is asked ahead has an answer. */
  private static final String ROOM = "5 x person(1) | 9 x garment(0, 0)\n";

  private static void homeAndPeople() {
    T.range("2: HEAT becomes v (20 to 90). BEYOND", WARD, "heat(?)", 20, 90);
    T.range("3: what 0 .. 5. BEYOND", WARD, "now(?)", 0, 5);
    T.range("3: what 0 .. 5. BEYOND", "", "now(?)", 0, 5);
    T.range("4: BEYOND: kind", "", "person(?)", 0, 5);
    T.range("4: BEYOND: kind", ROOM, "person(?)", 0, 5);
    T.range("5: of one. BEYOND", WARD, "of(?, 0)", 0, 5);
    T.range("5: of one. BEYOND", ROOM, "of(?, 4)", 0, 4);
    T.range("5: of one. BEYOND", "", "of(?, 0)", 0, -1);
    T.range("5: what 0 .. 5. BEYOND", WARD, "of(5, ?)", 0, 5);
    T.range("6: of one. BEYOND", WARD, "set(?, 2, 5)", 0, 5);
    T.range("6: of one. BEYOND", ROOM, "set(?, 1, 1)", 0, 4);
    T.range("6: of one. BEYOND", "", "set(?, 3, 0)", 0, -1);
    T.range("6: BAND (what 1), CONTENT (2), GONE (3). BEYOND", WARD, "set(2, ?, 1)", 1, 3);
    T.range("BAND (0 to 2)", WARD, "set(3, 1, ?)", 0, 2);
    T.range("CONTENT (-999 to 999)", WARD, "set(3, 2, ?)", -999, 999);
    T.range("GONE (1: it has died; 0 at first)", WARD, "set(3, 3, ?)", 0, 1);
    T.range("7: one. BEYOND", WARD, "would(?, 0, 0)", 0, 5);
    T.range("7: one. BEYOND", ROOM, "would(?, 0, 1)", 0, 4);
    T.range("7: a garment. BEYOND", WARD, "would(0, ?, 1)", 0, 9);
    T.range("7: a garment. BEYOND", ROOM, "would(0, ?, 0)", 0, 8);
    T.range("7: a garment. BEYOND", "person(0)", "would(0, ?, 0)", 0, -1);
    T.range("7: GIVES BACK (what 0), CLAIMS (1). BEYOND", WARD, "would(0, 0, ?)", 0, 1);
    T.range("8: one. BEYOND", WARD, "turn(?, 4)", 0, 5);
    T.range("8: one. BEYOND", ROOM, "turn(?, 4)", 0, 4);
    T.range("8: another KIND. BEYOND", WARD, "turn(5, ?)", 0, 5);
    T.range("9: BEYOND: no such one", WARD, "as(?, 0)", 0, 5);
    T.range("9: BEYOND: no such one", ROOM, "as(?, 0)", 0, 4);
    T.outside("9: BEYOND: kind", WARD, "as(5, ?)", 0, 5);
  }

  private static void garments() {
    T.range("10: BEYOND: owner", ROOM, "garment(?, 0)", 0, 4);
    T.range("10: BEYOND: owner", "", "garment(?, 0)", 0, -1);
    T.range("10: BEYOND: mark", ROOM, "garment(4, ?)", 0, 2);
    T.range("11: of one. BEYOND", WARD, "garmentOf(?, 5)", 0, 9);
    T.range("11: of one. BEYOND", ROOM, "garmentOf(?, 0)", 0, 8);
    T.range("11: of one. BEYOND", "person(0)", "garmentOf(?, 0)", 0, -1);
    T.range("11: what 0 .. 5. BEYOND", WARD, "garmentOf(9, ?)", 0, 5);
    T.range("12: of one. BEYOND", WARD, "sew(?, 2, 5)", 0, 9);
    T.range("12: of one. BEYOND", ROOM, "sew(?, 1, 1)", 0, 8);
    T.range("12: OWNER (what 0), MARK (1), NAME (2), WITH (3). BEYOND", WARD, "sew(0, ?, 1)", 0, 3);
    T.range("12: OWNER (a person)", WARD, "sew(9, 0, ?)", 0, 5);
    T.range("12: OWNER (a person)", ROOM, "sew(8, 0, ?)", 0, 4);
    T.range("12: MARK (0 sewn, 1 ironed on, 2 pen)", WARD, "sew(9, 1, ?)", 0, 2);
    T.range("12: NAME (0 to 99)", WARD, "sew(9, 2, ?)", 0, 99);
    T.range("12: WITH (a person), or -1: on the heap", WARD, "sew(9, 3, ?)", -1, 5);
    T.range("12: WITH (a person), or -1: on the heap", ROOM, "sew(8, 3, ?)", -1, 4);
  }

  private static void weeks() {
    T.range("13: n WEEKS go (1 to 60)", WARD, "weeks(?)", 1, 60);
    T.range("13: n WEEKS go (1 to 60)", "", "weeks(?)", 1, 60);
    T.range("14: a garment. BEYOND", WARD, "on(?, 1, 1)", 0, 9);
    T.range("14: a garment. BEYOND", ROOM, "on(?, 0, 0)", 0, 8);
    T.range("14: n WEEKS (0 to 100) AHEAD", WARD, "on(1, ?, 0)", 0, 100);
    T.range("14: NAME (what 0), WITH (1). BEYOND", WARD, "on(1, 1, ?)", 0, 1);
    T.range("15: a person. BEYOND", WARD, "then(?, 1)", 0, 5);
    T.range("15: a person. BEYOND", ROOM, "then(?, 0)", 0, 4);
    T.range("15: n WEEKS (0 to 100) AHEAD", WARD, "then(1, ?)", 0, 100);
    T.range("16: a garment. BEYOND", WARD, "lost(?)", 0, 9);
    T.range("16: a garment. BEYOND", ROOM, "lost(?)", 0, 8);
    T.range("17: a garment. BEYOND", ROOM, "comes(?, 0)", 0, 8);
    T.outside("17: a garment. BEYOND", WARD, "comes(?, 0)", 0, 9);
    T.outside("17: a person. BEYOND", WARD, "comes(0, ?)", 0, 5);
    T.outside("17: a person. BEYOND", ROOM, "comes(0, ?)", 0, 4);
  }

  private static void whatIsBest() {
    T.range("18: a garment. BEYOND", WARD, "mark(?, 1)", 0, 9);
    T.range("18: a garment. BEYOND", ROOM, "mark(?, 1)", 0, 8);
    T.range("18: n WEEKS (1 to 40)", WARD, "mark(1, ?)", 1, 40);
    T.range("19: one. BEYOND", WARD, "kind(?, 1)", 0, 5);
    T.range("19: one. BEYOND", ROOM, "kind(?, 1)", 0, 4);
    T.range("19: n WEEKS (1 to 60) AHEAD", WARD, "kind(1, ?)", 1, 60);
    T.range("20: a garment. BEYOND", ROOM, "warmest(?, 1)", 0, 8);
    T.range("20: n WEEKS (1 to 40) AHEAD", ROOM, "warmest(0, ?)", 1, 40);
    T.range("21: a garment. BEYOND", ROOM, "plain(?, 1)", 0, 8);
    T.range("21: n WEEKS (1 to 60) AHEAD", ROOM, "plain(0, ?)", 1, 60);
    T.range("22: n WEEKS (1 to 60) AHEAD", WARD, "teach(?)", 1, 60);
    T.range("23: n WEEKS (0 to 100) AHEAD", WARD, "best(?)", 0, 100);
  }

  private static void textAndSheets() {
    T.range("24: BEYOND: n (1 to 4)", WARD, "feed(7, ?)", 1, 4);
    T.range("24: BEYOND: n (1 to 4)", "", "feed(MIN, ?)", 1, 4);
    T.range("27: BEYOND: no such sheet", WARD, "sheet(?, 8, 2)", 0, 3);
    T.range("27: BEYOND: no such sheet", WARD, "sheet(?, 0, 2)", 0, 3);
    for (int bits : new int[] {0, 8, 16, 64}) {
      for (int n = 0; n <= 40; n++) {
        T.run("27: n (0 if it is MISSING)", WARD + "sheet(2, " + bits + ", " + n + ") = " + (bits == 0 ? 0 : n));
      }
      for (String n : new String[] {"-1", "-2", "MIN", "-2147483647"}) {
        T.run("27: SIZE: n is below 0 (also with bits 0)", WARD + "sheet(2, " + bits + ", " + n + ") = SIZE");
        T.run("27: SIZE: n is below 0 (also with bits 0)", WARD + "sheet(3, " + bits + ", " + n + ") = SIZE");
      }
      for (String n : new String[] {"41", "42", "256", "65537", "MAX", "2147483646"}) {
        T.run("27: BEYOND: n is above 40 (also with bits 0)", WARD + "sheet(2, " + bits + ", " + n + ") = BEYOND");
        T.run("27: BEYOND: n is above 40 (also with bits 0)", WARD + "sheet(3, " + bits + ", " + n + ") = BEYOND");
      }
    }
    for (String bits : new String[] {"-1", "1", "7", "9", "15", "17", "32", "63", "65", "-8", "-64", "128", "256", "264", "MIN", "MAX"}) {
      T.run("27: BEYOND: other bits", WARD + "sheet(2, " + bits + ", 1) = BEYOND");
    }
    T.range("28: BEYOND: no such sheet", WARD + "sheet(3, 8, 1)", "write(?, 0, 5)", 0, 3);
    T.range("28: BEYOND: no such number", WARD, "write(0, ?, 5)", 0, 2);
    T.range("28: BEYOND: no such number", "sheet(0, 64, 40)", "write(0, ?, 5)", 0, 39);
    T.range("28: BEYOND: no such number", "sheet(0, 16, 0)", "write(0, ?, 5)", 0, -1);
    T.range("29: BEYOND: no such sheet (either)", "sheet(0, 8, 2) | sheet(1, 8, 2) | sheet(2, 8, 2) | sheet(3, 8, 2)",
        "copy(?, 0, 1, 0, 2)", 0, 3);
    T.range("29: BEYOND: no such sheet (either)", "sheet(0, 8, 2) | sheet(1, 8, 2) | sheet(2, 8, 2) | sheet(3, 8, 2)",
        "copy(1, 0, ?, 0, 2)", 0, 3);
    T.range("30: BEYOND: no such sheet", WARD + "sheet(3, 8, 1)", "lays(?)", 0, 3);
    T.range("31: BEYOND: no such sheet", WARD + "sheet(3, 8, 1)", "book(?, 0)", 0, 3);
    T.range("31: BEYOND: garment", WARD, "book(0, ?)", 0, 9);
    T.range("31: BEYOND: garment", ROOM + "sheet(0, 8, 0)", "book(0, ?)", 0, 8);
    T.range("32: BEYOND: no such sheet", WARD + "sheet(3, 8, 1)", "read(?, 0)", 0, 3);
    T.range("32: BEYOND: garment", WARD, "read(0, ?)", 0, 9);
    T.range("32: BEYOND: garment", ROOM + "sheet(0, 8, 0)", "read(0, ?)", 0, 8);
    T.range("36: BEYOND: another what", WARD, "count(?)", 0, 3);
    T.range("37: which -1, 0 to 6; BEYOND: another one", WARD, "status(?)", -1, 6);
  }

  private static void copyRanges() {
    String rows = "sheet(0, 16, 5) | write(0, 0, 1) | write(0, 4, 2) | sheet(1, 16, 3) | write(1, 1, 7)\n";
    String sentence = "29: BEYOND: one has not so many, or from, to or n is below 0";
    T.range(sentence, rows, "copy(0, ?, 1, 0, 3)", 0, 2);
    T.range(sentence, rows, "copy(0, ?, 1, 0, 1)", 0, 4);
    T.range(sentence, rows, "copy(0, 0, 1, ?, 1)", 0, 2);
    T.range(sentence, rows, "copy(0, 0, 1, ?, 3)", 0, 0);
    T.range(sentence, rows, "copy(1, ?, 0, 0, 2)", 0, 1);
    T.range(sentence, rows, "copy(1, 0, 0, ?, 2)", 0, 3);
    T.range(sentence, rows, "copy(0, 0, 1, 0, ?)", 0, 3);
    T.range(sentence, rows, "copy(1, 0, 0, 0, ?)", 0, 3);
    T.range(sentence, rows, "copy(0, 0, 0, 1, ?)", 0, 4);
    T.range(sentence, rows, "copy(0, ?, 0, 0, 0)", 0, 5);
    T.range(sentence, rows, "copy(0, 0, 1, ?, 0)", 0, 3);
    T.run(sentence, rows + """
        copy(0, MAX, 1, MAX, MAX) = BEYOND | copy(0, MAX, 1, 0, 1) = BEYOND | copy(0, 1, 1, 0, MAX) = BEYOND
        copy(0, 0, 1, MAX, 1) = BEYOND | copy(0, 0, 1, 1, MAX) = BEYOND | copy(0, MIN, 1, 0, MIN) = BEYOND
        copy(0, -1, 1, 0, 2) = BEYOND | copy(0, 0, 1, -1, 2) = BEYOND | copy(0, 1, 1, 1, -1) = BEYOND
        copy(0, 3, 1, 0, MIN) = BEYOND | copy(0, MIN, 1, MIN, MAX) = BEYOND
        """);
  }

  /** "Each act tells its findings in the order in which they are asked." */
  private static void order() {
    T.run("4: BEYOND: kind. FULL", "6 x person(0) | person(6) = BEYOND | person(-1) = BEYOND | person(MAX) = BEYOND | person(0) = FULL");
    T.run("10: BEYOND: owner, mark. FULL", """
        person(0) | 10 x garment(0, 0)
        garment(1, 0) = BEYOND | garment(-1, 0) = BEYOND | garment(0, 3) = BEYOND | garment(0, -1) = BEYOND | garment(1, 3) = BEYOND
        garment(0, 0) = FULL
        """);
    T.run("9: BEYOND: no such one, kind. KIND", """
        person(2) | as(0, 6) = BEYOND | as(0, -1) = BEYOND | as(1, 1) = BEYOND | as(-1, 1) = BEYOND | as(0, 1) = KIND
        """);
    T.run("17: BEYOND. NONE", """
        person(0) | person(0) | garment(0, 0) | sew(0, 3, -1) | sew(0, 2, 0)
        comes(0, 2) = BEYOND | comes(0, -1) = BEYOND | comes(1, 0) = BEYOND | comes(0, 0) = NONE
        """);
    T.run("20: BEYOND. NONE", """
        person(0) | garment(0, 0) | set(0, 3, 1)
        warmest(0, 0) = BEYOND | warmest(0, 41) = BEYOND | warmest(1, 1) = BEYOND | warmest(0, 1) = NONE | warmest(0, 40) = NONE
        """);
    T.run("21: BEYOND. NONE", """
        person(0) | garment(0, 0) | set(0, 3, 1)
        plain(0, 0) = BEYOND | plain(0, 61) = BEYOND | plain(1, 1) = BEYOND | plain(0, 1) = NONE | plain(0, 60) = NONE
        """);
    T.run("22: BEYOND. NONE: nobody is there", """
        teach(0) = BEYOND | teach(61) = BEYOND | teach(MIN) = BEYOND | teach(MAX) = BEYOND | teach(1) = NONE | teach(60) = NONE
        """);
    T.run("23: BEYOND. NONE: nobody is there", """
        best(-1) = BEYOND | best(101) = BEYOND | best(MIN) = BEYOND | best(MAX) = BEYOND | best(0) = NONE | best(100) = NONE
        """);
    T.run("24: BEYOND: n. FULL", """
        30 x feed(32, 4) | feed(0, 0) = BEYOND | feed(0, 5) = BEYOND | feed(0, MIN) = BEYOND | feed(0, MAX) = BEYOND
        feed(0, 1) = FULL | feed(0, 4) = FULL
        """);
    T.run("27: BEYOND: no such sheet, other bits. SIZE: .. BEYOND: n is above 40", """
        sheet(4, 8, -1) = BEYOND | sheet(-1, 8, -1) = BEYOND | sheet(0, 7, -1) = BEYOND | sheet(4, 7, -1) = BEYOND
        sheet(4, 0, -1) = BEYOND | sheet(MIN, 8, MIN) = BEYOND | sheet(0, MAX, MIN) = BEYOND
        sheet(0, 8, -1) = SIZE | sheet(0, 0, -1) = SIZE | sheet(0, 8, 41) = BEYOND | sheet(0, 0, 41) = BEYOND
        """);
    T.run("28: BEYOND: no such sheet. MISSING. BEYOND: no such number", """
        sheet(0, 8, 2)
        write(4, 0, 0) = BEYOND | write(-1, 0, 0) = BEYOND | write(4, -1, 0) = BEYOND
        write(1, 0, 0) = MISSING | write(1, -1, 0) = MISSING | write(1, 40, 0) = MISSING | write(1, MIN, 0) = MISSING
        write(0, 2, 0) = BEYOND | write(0, -1, 0) = BEYOND
        """);
    T.run("29: BEYOND: no such sheet (either). MISSING: one is. KIND. BEYOND", """
        sheet(0, 8, 2) | sheet(1, 16, 2) | sheet(2, 8, 2)
        copy(4, 0, 3, 0, 1) = BEYOND | copy(3, 0, 4, 0, 1) = BEYOND | copy(-1, 0, 3, 0, 1) = BEYOND | copy(3, 0, -1, 0, 1) = BEYOND
        copy(4, -1, 0, 0, -1) = BEYOND | copy(0, -1, 4, 0, -1) = BEYOND
        copy(3, 0, 0, 0, 1) = MISSING | copy(0, 0, 3, 0, 1) = MISSING | copy(3, 0, 3, 0, 1) = MISSING
        copy(3, -1, 1, -1, -1) = MISSING | copy(1, -1, 3, -1, -1) = MISSING | copy(3, 0, 3, 0, 0) = MISSING
        copy(0, 0, 1, 0, 1) = KIND | copy(1, 0, 0, 0, 1) = KIND | copy(0, -1, 1, 0, 1) = KIND | copy(0, 0, 1, -1, 1) = KIND
        copy(0, 0, 1, 0, -1) = KIND | copy(0, 0, 1, 0, 3) = KIND | copy(0, 0, 1, 0, 0) = KIND
        copy(0, -1, 2, 0, 1) = BEYOND | copy(0, 0, 2, -1, 1) = BEYOND | copy(0, 0, 2, 0, -1) = BEYOND | copy(0, 0, 2, 0, 3) = BEYOND
        """);
    T.run("30: BEYOND: no such sheet. MISSING", "lays(4) = BEYOND | lays(-1) = BEYOND | lays(0) = MISSING | lays(3) = MISSING");
    for (String call : new String[] {"book", "read"}) {
      T.run("31, 32: BEYOND: no such sheet. MISSING. BEYOND: garment", """
          person(0) | garment(0, 0) | sheet(0, 8, 1)
          @(4, 0) = BEYOND | @(-1, 0) = BEYOND | @(4, 1) = BEYOND | @(1, 0) = MISSING | @(1, 1) = MISSING | @(1, -1) = MISSING
          @(1, MIN) = MISSING | @(1, MAX) = MISSING | @(0, 1) = BEYOND | @(0, -1) = BEYOND
          """.replace("@", call));
    }
  }

  /** Only reached by more calls than are promised, but the program keeps to it all the same. */
  private static void lastWeek() {
    T.runLong("WEEK (99999 at most); 13: BEYOND. STATE: WEEK would be above 99999", """
        person(4) | 1666 x weeks(60)
        now(0) = 99960 | weeks(40) = STATE | weeks(60) = STATE | weeks(61) = BEYOND | weeks(0) = BEYOND | weeks(MAX) = BEYOND
        weeks(39) = 0 | now(0) = 99999 | weeks(1) = STATE | weeks(60) = STATE | weeks(MIN) = BEYOND | now(0) = 99999
        set(0, 2, 0) | then(0, 100) = 1200 | now(0) = 99999
        """);
  }

  public static void main(String[] args) {
    homeAndPeople();
    garments();
    weeks();
    whatIsBest();
    textAndSheets();
    copyRanges();
    order();
    lastWeek();
    T.end();
  }
}
