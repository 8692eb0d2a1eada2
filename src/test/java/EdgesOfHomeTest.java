// Section 1 of the document but for its text, and promises 1 to 13: what is at first, each step in what people and
// garments do, and how a week goes. The numbers due are reckoned by hand from the document.
public final class EdgesOfHomeTest {
  private static final Told T = new Told();
  private static final int[] KINDS = {0, 1, 2, 3, 4, 5};

  private static void atFirst() {
    T.run("1: Nobody there; THE TAPE is empty, no image is kept", """
        now(0) = 0 | now(1) = 60 | now(2) = 0 | now(3) = 0 | now(4) = 0 | now(5) = 10000
        count(0) = 0 | count(1) = 0 | count(2) = 0 | count(3) = 0 | status(-1) = 0
        of(0, 0) = BEYOND | garmentOf(0, 0) = BEYOND | undo() = NONE | tear() = 0 | wipe() = 0
        lays(0) = MISSING | lays(1) = MISSING | lays(2) = MISSING | lays(3) = MISSING
        """);
    T.run("1: THE TAPE is empty", "home() = -1 | status(-1) = 0");
    T.run("HEAT (20 to 90; 60 at first); 2: what it was", """
        heat(60) = 60 | heat(20) = 60 | heat(20) = 20 | heat(90) = 20 | heat(19) = BEYOND | heat(91) = BEYOND | heat(21) = 90 | now(1) = 21
        """);
    T.run("BAND (at first the rest of its number by 3), CONTENT (0 at first), GONE (0 at first)", """
        person(5) = 0 | person(4) = 1 | person(3) = 2 | person(2) = 3 | person(1) = 4 | person(0) = 5
        of(0, 1) = 0 | of(1, 1) = 1 | of(2, 1) = 2 | of(3, 1) = 0 | of(4, 1) = 1 | of(5, 1) = 2
        of(0, 0) = 5 | of(1, 0) = 4 | of(2, 0) = 3 | of(3, 0) = 2 | of(4, 0) = 1 | of(5, 0) = 0
        of(0, 2) = 1000 | of(5, 2) = 1000 | of(0, 3) = 0 | of(5, 3) = 0
        """);
    T.run("PEOPLE 0, 1, .. (at most 6)", """
        5 x person(0) | count(0) = 5 | of(5, 0) = BEYOND | person(2) = 5 | of(5, 0) = 2 | of(6, 0) = BEYOND
        person(0) = FULL | person(5) = FULL | count(0) = 6 | now(4) = 63
        """);
    T.run("GARMENTS 0, 1, .. (at most 10)", """
        person(0) | 9 x garment(0, 0) | count(1) = 9 | garmentOf(9, 0) = BEYOND | garment(0, 2) = 9 | garmentOf(9, 1) = 2
        garmentOf(10, 0) = BEYOND | garment(0, 0) = FULL | garment(0, 2) = FULL | count(1) = 10 | now(3) = 1023
        """);
    T.run("OWNER, MARK, NAME (99 at first); at first WITH its OWNER", """
        person(0) | person(0) | garment(1, 2) = 0 | garmentOf(0, 0) = 1 | garmentOf(0, 1) = 2 | garmentOf(0, 2) = 99 | garmentOf(0, 3) = 1
        set(1, 3, 1) | garment(1, 1) = 1 | garmentOf(1, 0) = 1 | garmentOf(1, 3) = 1 | garmentOf(1, 2) = 99 | count(3) = 198
        """);
    T.run("one more where an undo took one away is as at first", """
        person(0) | garment(0, 0) | image() | person(2) | set(1, 1, 2) | set(1, 2, -999) | set(1, 3, 1)
        garment(1, 2) | sew(1, 2, 0) | sew(1, 3, -1) | undo() = 1 | of(1, 0) = BEYOND | garmentOf(1, 0) = BEYOND | sew(0, 0, 1) = BEYOND
        person(3) = 1 | of(1, 0) = 3 | of(1, 1) = 1 | of(1, 2) = 1000 | of(1, 3) = 0
        garment(0, 1) = 1 | garmentOf(1, 1) = 1 | garmentOf(1, 2) = 99 | garmentOf(1, 3) = 0
        """);
  }

  private static void sets() {
    T.run("3: 2 garments on the heap, 3 RIGHT, 4 people that aren't GONE, as sets; Sets are told by bits", """
        6 x person(0) | 9 x garment(0, 0) | garment(5, 0)
        now(2) = 0 | now(3) = 1023 | now(4) = 63 | of(0, 4) = 511 | of(5, 4) = 512 | of(1, 4) = 0
        sew(9, 3, -1) | now(2) = 512 | now(3) = 511 | of(5, 4) = 0 | sew(0, 3, -1) | now(2) = 513 | now(3) = 510
        sew(9, 3, 4) | now(2) = 1 | now(3) = 510 | of(4, 4) = 512 | sew(9, 0, 4) | now(3) = 1022
        set(5, 3, 1) | now(4) = 31 | set(0, 3, 1) | now(4) = 30 | now(3) = 1022
        """);
    T.run("3: 5 10000 and CONTENT of all together", """
        6 x person(0) | set(0, 2, -999) | set(1, 2, -999) | set(2, 2, -999) | set(3, 2, -999) | set(4, 2, -999) | set(5, 2, -999)
        now(5) = 4006 | set(0, 2, 999) | set(1, 2, 999) | set(2, 2, 999) | set(3, 2, 999) | set(4, 2, 999) | now(5) = 13996
        set(5, 2, 999) | now(5) = 15994 | set(5, 3, 1) | now(5) = 15994
        """);
    T.run("6: BAND, CONTENT, GONE becomes v: what it was", """
        person(0) | person(0) | set(1, 1, 2) = 1 | set(1, 1, 2) = 2 | set(1, 1, 0) = 2 | of(1, 1) = 0 | of(0, 1) = 0
        set(1, 2, -999) = 0 | set(1, 2, 999) = -999 | of(1, 2) = 1999 | set(1, 2, -999) = 999 | of(1, 2) = 1 | of(0, 2) = 1000
        set(1, 3, 1) = 0 | set(1, 3, 1) = 1 | of(1, 3) = 1 | set(1, 3, 0) = 1 | of(1, 3) = 0 | of(0, 3) = 0
        set(1, 0, 0) = BEYOND | set(1, 4, 0) = BEYOND | set(1, 1, 3) = BEYOND | set(1, 1, -1) = BEYOND
        set(1, 2, 1000) = BEYOND | set(1, 2, -1000) = BEYOND | set(1, 3, 2) = BEYOND | set(1, 3, -1) = BEYOND
        """);
    T.run("12: OWNER, MARK, NAME, WITH becomes v: what it was", """
        person(0) | person(0) | garment(0, 0) | garment(0, 0)
        sew(1, 0, 1) = 0 | sew(1, 0, 0) = 1 | sew(1, 0, 1) = 0 | garmentOf(1, 0) = 1 | garmentOf(1, 3) = 0 | garmentOf(0, 0) = 0
        sew(1, 1, 2) = 0 | sew(1, 1, 0) = 2 | garmentOf(1, 1) = 0 | sew(1, 2, 0) = 99 | sew(1, 2, 99) = 0 | garmentOf(1, 2) = 99
        sew(1, 3, -1) = 0 | sew(1, 3, -1) = -1 | garmentOf(1, 3) = -1 | sew(1, 3, 1) = -1 | sew(1, 3, 0) = 1 | garmentOf(0, 3) = 0
        sew(1, 0, -1) = BEYOND | sew(1, 0, 2) = BEYOND | sew(1, 3, -2) = BEYOND | sew(1, 3, 2) = BEYOND
        """);
  }

  private static void kinds() {
    String[] isOf = {"0", "01", "02", "03", "014", "025"};
    for (int kind : KINDS) {
      StringBuilder rows = new StringBuilder("person(0) | set(0, 2, -999) | turn(0, " + kind + ") = 0 | of(0, 0) = " + kind + "\n");
      for (int as : KINDS) rows.append("as(0, ").append(as).append(isOf[kind].indexOf('0' + as) >= 0 ? ") = 1\n" : ") = KIND\n");
      T.run("9: KIND: it isn't of that kind, nor of one under it", rows + "set(0, 2, 999) | as(0, 0) = 1999");
      T.run("8: One becomes one of another KIND: what it was", "person(" + kind + ") | set(0, 1, 2) | set(0, 2, 8) | set(0, 3, 1)\n"
          + "turn(0, " + kind + ") = " + kind + " | turn(0, 5) = " + kind + " | turn(0, 0) = 5 | turn(0, 6) = BEYOND | turn(0, -1) = BEYOND\n"
          + "of(0, 0) = 0 | of(0, 1) = 2 | of(0, 2) = 1008 | of(0, 3) = 1");
    }
  }

  private static void fades() {
    int[][] pen = {{20, 3}, {23, 3}, {24, 4}, {29, 4}, {30, 5}, {35, 5}, {36, 6}, {41, 6}, {42, 7}, {47, 7}, {48, 8}, {53, 8}, {54, 9},
        {59, 9}, {60, 10}, {65, 10}, {66, 11}, {71, 11}, {72, 12}, {77, 12}, {78, 13}, {83, 13}, {84, 14}, {89, 14}, {90, 15}};
    int[][] ironed = {{20, 9}, {40, 9}, {41, 9}, {49, 9}, {50, 9}, {51, 9}, {59, 9}, {60, 10}, {69, 10}, {70, 11}, {79, 11}, {80, 12},
        {89, 12}, {90, 13}};
    int[][] sewn = {{20, 1}, {49, 1}, {50, 1}, {60, 1}, {90, 1}};
    fades("FADES: sewn: 1", 0, sewn);
    fades("FADES: ironed on: 9, and a tenth of what h is above 50 (cut)", 1, ironed);
    fades("FADES: pen: h by 6", 2, pen);
  }

  private static void fades(String sentence, int mark, int[][] due) {
    for (int[] d : due) {
      int h = d[0];
      int less = d[1];
      T.run(sentence, "person(0) | garment(0, " + mark + ") | heat(" + h + ") | garmentOf(0, 5) = " + less + " | on(0, 1, 0) = " + (99 - less)
          + " | on(0, 2, 0) = " + (99 - 2 * less) + " | sew(0, 2, 0) | garmentOf(0, 5) = " + less
          + " | sew(0, 3, -1) | garmentOf(0, 5) = " + less);
      T.run("NAME what it FADES less (0 at least)", "person(1) | garment(0, " + mark + ") | heat(" + h + ") | sew(0, 2, " + (less + 1)
          + ") | on(0, 1, 0) = 1 | sew(0, 2, " + less + ") | on(0, 1, 0) = 0 | sew(0, 2, " + (less - 1)
          + ") | on(0, 1, 0) = 0 | sew(0, 2, 0) | on(0, 1, 0) = 0 | weeks(1) | garmentOf(0, 2) = 0");
    }
  }

  private static void reads() {
    String six = "6 x person(0) | garment(4, 0)\n";
    T.run("READS: NAME 60 or more, and its OWNER not GONE: to that", six + """
        garmentOf(0, 4) = 4 | sew(0, 2, 60) | garmentOf(0, 4) = 4 | sew(0, 3, 2) | garmentOf(0, 4) = 4 | sew(0, 3, -1) | garmentOf(0, 4) = 4
        set(1, 3, 1) | garmentOf(0, 4) = 4
        """);
    T.run("READS: else NAME 20 or more: to the least person of the OWNER's BAND that isn't GONE", six + """
        sew(0, 2, 59) | garmentOf(0, 4) = 1 | sew(0, 2, 20) | garmentOf(0, 4) = 1 | set(1, 3, 1) | garmentOf(0, 4) = 4
        set(0, 1, 1) | garmentOf(0, 4) = 0 | set(0, 1, 2) | garmentOf(0, 4) = 4 | set(4, 1, 2) | garmentOf(0, 4) = 0
        set(0, 3, 1) | garmentOf(0, 4) = 2
        """);
    T.run("READS: an OWNER that is GONE, NAME 60 or more: to the least of the BAND", six + """
        set(4, 3, 1) | garmentOf(0, 4) = 1 | sew(0, 2, 60) | garmentOf(0, 4) = 1 | sew(0, 2, 59) | garmentOf(0, 4) = 1
        """);
    T.run("READS: (to the heap, if there is none)", six + """
        set(4, 3, 1) | set(1, 3, 1) | garmentOf(0, 4) = -1 | sew(0, 2, 60) | garmentOf(0, 4) = -1 | sew(0, 2, 20) | garmentOf(0, 4) = -1
        set(5, 1, 1) | garmentOf(0, 4) = 5 | weeks(1) = 0 | garmentOf(0, 3) = -1
        """);
    T.run("READS: NAME below 20: to the heap", six + """
        sew(0, 2, 20) | garmentOf(0, 4) = 1 | sew(0, 2, 19) | garmentOf(0, 4) = -1 | sew(0, 2, 0) | garmentOf(0, 4) = -1
        set(4, 3, 1) | garmentOf(0, 4) = -1
        """);
    T.run("READS in a week, by NAME as it is then", six + """
        sew(0, 2, 61) | weeks(1) = 1 | garmentOf(0, 3) = 4 | weeks(1) = 0 | garmentOf(0, 2) = 59 | garmentOf(0, 3) = 1
        sew(0, 2, 21) | sew(0, 3, 4) | weeks(1) = 0 | garmentOf(0, 3) = 1 | weeks(2) = 0 | sew(0, 3, 4) | sew(0, 2, 20) | now(0) = 5
        heat(20) | weeks(1) = 1 | garmentOf(0, 3) = 4 | weeks(1) = 0 | garmentOf(0, 3) = -1 | garmentOf(0, 2) = 18
        """);
  }

  /** The least NAME at which each kind gives back; 100 for never. */
  private static void givesBack() {
    int[] least = {60, 0, 100, 80, 0, 100};
    String[] sentence = {"GUEST: if n is 60 or more", "MINDER: always", "VAGUE: never", "DEAF: if n is 80 or more", "DAUGHTER: as MINDER",
        "MAGPIE: as VAGUE"};
    for (int kind : KINDS) {
      // Person 1 has a garment of 0, who is a guest; with a name of 20 or more it is read for 0, else for none.
      String rows = "person(0) | person(" + kind + ") | garment(0, 0) | sew(0, 3, 1)\n";
      for (int name : new int[] {0, 1, 19, 20, 49, 50, 59, 60, 79, 80, 98, 99}) {
        int gives = name >= least[kind] ? 1 : 0;
        T.run("GIVES BACK: " + sentence[kind], rows + "sew(0, 2, " + name + ") | would(1, 0, 0) = " + gives
            + " | sew(0, 3, -1) | would(1, 0, 0) = " + gives + " | sew(0, 3, 0) | would(1, 0, 0) = " + gives
            + " | set(1, 3, 1) | would(1, 0, 0) = " + gives + " | sew(0, 0, 1) | would(1, 0, 0) = " + gives);
        if (name == 99) continue;
        int to = gives == 0 ? 1 : name >= 20 ? 0 : -1;
        T.run("GIVES it BACK (by NAME as it is then): " + sentence[kind], rows + "sew(0, 2, " + (name + 1) + ") | weeks(1) = " + (to == 0 ? 1 : 0)
            + " | garmentOf(0, 2) = " + name + " | garmentOf(0, 3) = " + to);
        T.run("if the one that has it is GONE", rows + "set(1, 3, 1) | sew(0, 2, " + (name + 1) + ") | weeks(1) | garmentOf(0, 3) = "
            + (name >= 20 ? 0 : -1));
      }
    }
  }

  private static void claims() {
    String[] sentence = {"GUEST: if o is 1 and n is 1 or more", "MINDER: if o is 1", "VAGUE: if w is 0", "DEAF: as GUEST",
        "DAUGHTER: as MINDER", "MAGPIE: as VAGUE, or if n is 50 or more"};
    for (int kind : KINDS) {
      for (int own = 0; own <= 1; own++) {
        for (int w = 0; w <= 2; w++) {
          for (int name : new int[] {0, 1, 2, 49, 50, 99}) claims(sentence[kind], kind, own, w, name);
        }
      }
    }
  }

  /** Garment 0 lies on the heap; person 0 of the kind has w others, and nobody else would take it. */
  private static void claims(String sentence, int kind, int own, int w, int name) {
    boolean byName = own == 1 && name >= 1;
    boolean vague = w == 0;
    boolean[] does = {byName, own == 1, vague, byName, own == 1, vague || name >= 50};
    int claims = does[kind] ? 1 : 0;
    String rows = "person(" + kind + ") | person(0) | person(0) | garment(" + (1 - own) + ", 0) | sew(0, 3, -1) | sew(0, 2, " + name + ")\n"
        + w + " x garment(0, 0)\n" + "set(1, 3, 1)\n";
    T.run("CLAIMS: " + sentence, rows + "would(0, 0, 1) = " + claims + " | set(0, 3, 1) | would(0, 0, 1) = " + claims);
    T.run("the table: CLAIMS: " + sentence, rows + "weeks(1) | garmentOf(0, 3) = -1 | weeks(1) | garmentOf(0, 3) = " + (claims - 1)
        + " | garmentOf(0, 2) = " + name);
    T.run("the table: .. that isn't GONE", rows + "set(0, 3, 1) | weeks(2) | garmentOf(0, 3) = -1");
  }

  private static void claimsCountAll() {
    T.run("CLAIMS: w: how many it has WITH it then, its own and others', and the garment itself", """
        person(2) | person(5) | person(0) | garment(0, 0) | garment(2, 0) | would(0, 1, 1) = 0 | sew(0, 3, -1) | would(0, 1, 1) = 1
        sew(1, 3, 0) | would(0, 0, 1) = 0 | would(0, 1, 1) = 0 | sew(0, 3, 0) | would(0, 1, 1) = 0
        sew(0, 3, 1) | sew(0, 2, 49) | would(1, 0, 1) = 0 | sew(0, 2, 50) | would(1, 0, 1) = 1 | sew(0, 2, 49) | sew(0, 3, 2) | would(1, 0, 1) = 1
        """);
  }

  private static void minds() {
    int[][] held = {{0, 0}, {1, 0}, {0, 1}, {1, 1}, {10, 0}, {0, 10}, {9, 1}, {2, 3}};
    int[][] due = {
        {0, 1, -1, 0, 10, -10, 8, -1},
        {0, 2, -3, -1, 20, -30, 15, -5},
        {0, 1, 1, 2, 10, 10, 10, 5},
        {1, 2, 0, 1, 11, -9, 9, 0},
        {2, 4, -3, -1, 22, -30, 15, -5},
        {0, 1, 2, 3, 10, 20, 11, 8}};
    for (int kind : KINDS) {
      for (int i = 0; i < held.length; i++) {
        int a = held[i][0];
        int b = held[i][1];
        StringBuilder rows = new StringBuilder("person(" + kind + ") | 3 x person(0)\n");
        if (a > 0) rows.append(a).append(" x garment(0, 0)\n");
        // Names of 50 of an owner in person 0's band are read for 0: even one that gives back has them after a week.
        for (int g = a; g < a + b; g++) rows.append("garment(3, 0) | sew(" + g + ", 2, 50) | sew(" + g + ", 3, 0)\n");
        int minds = due[kind][i];
        T.run("MINDS, kind " + kind, rows + "of(0, 5) = " + (1000 + minds) + " | then(0, 1) = " + (1000 + minds)
            + " | weeks(1) | of(0, 2) = " + (1000 + minds) + " | set(0, 3, 1) | of(0, 5) = " + (1000 + minds));
        held(kind, minds, rows.toString());
      }
    }
    T.run("MINDS: others' are others', be the OWNER's number less or greater", """
        3 x person(1) | garment(0, 0) | garment(1, 0) | garment(2, 0) | sew(0, 3, 1) | of(1, 5) = 999 | sew(2, 3, 1) | of(1, 5) = 996
        sew(0, 3, 2) | of(1, 5) = 999 | of(2, 5) = 997 | sew(1, 3, 2) | of(1, 5) = 997 | of(2, 5) = 994 | sew(1, 3, 0) | of(0, 5) = 997
        """);
  }

  /** "CONTENT is what they MIND more (held)": to the edge, over it, and from the edge. */
  private static void held(int kind, int minds, String rows) {
    for (int from : new int[] {999, 998, 999 - minds, 998 - minds, 1000 - minds, -999, -998, -999 - minds, -998 - minds, -1000 - minds}) {
      if (from < -999 || from > 999) continue;
      int to = from + minds > 999 ? 999 : from + minds < -999 ? -999 : from + minds;
      T.run("CONTENT (-999 to 999) (held), kind " + kind, rows + "set(0, 2, " + from + ") | then(0, 1) = " + (1000 + to)
          + " | weeks(1) | of(0, 2) = " + (1000 + to) + " | set(0, 3, 1) | weeks(1) | of(0, 2) = " + (1000 + to));
    }
  }

  private static void weekOne() {
    T.run("A WEEK goes: (1) GARMENTS that are WITH anybody: they are washed (those on the heap not)", """
        person(2) | person(2) | garment(0, 2) | garment(0, 2) | sew(1, 3, 1) | garment(0, 2) | sew(2, 3, -1)
        weeks(1) | garmentOf(0, 2) = 89 | garmentOf(1, 2) = 89 | garmentOf(2, 2) = 99 | garmentOf(2, 3) = -1
        """);
    T.run("(1) if the one that has it is its OWNER: it is WITH whom the trolley READS it for, whatever its KIND", """
        3 x person(0) | person(2) | person(5) | person(5) | garment(3, 0) | garment(4, 0) | garment(5, 0)
        sew(0, 2, 60) | sew(1, 2, 20) | sew(2, 2, 61) | weeks(1) = 4
        garmentOf(0, 3) = 0 | garmentOf(1, 3) = -1 | garmentOf(2, 3) = 5
        """);
    T.run("(1) an OWNER that is GONE has it no longer", """
        4 x person(0) | garment(0, 0) | set(0, 3, 1) | now(3) = 1 | weeks(1) = 0 | garmentOf(0, 3) = 3 | garmentOf(0, 2) = 98
        set(3, 3, 1) | weeks(1) = 0 | garmentOf(0, 3) = -1 | garmentOf(0, 2) = 97 | weeks(2) = 0 | garmentOf(0, 2) = 97
        """);
    T.run("(1) else it stays", """
        person(0) | person(0) | garment(0, 0) | sew(0, 3, 1) | sew(0, 2, 60) | weeks(1) = 0 | garmentOf(0, 3) = 1 | weeks(60) = 0
        garmentOf(0, 2) = 0 | garmentOf(0, 3) = 1
        """);
  }

  private static void table() {
    T.run("(2) In WEEKS whose rest by 2 is 1: the table", """
        person(1) | garment(0, 0) | sew(0, 3, -1) | weeks(1) = 0 | now(0) = 1 | weeks(1) = 1 | now(0) = 2
        sew(0, 3, -1) | weeks(1) = 0 | weeks(1) = 1 | now(0) = 4 | weeks(1) = 1 | sew(0, 3, -1) | weeks(1) = 1 | now(0) = 6
        """);
    T.run("(2) the table has what came to the heap in the same WEEK", """
        person(0) | garment(0, 0) | weeks(1) | sew(0, 2, 20) | weeks(1) = 1 | garmentOf(0, 2) = 19 | now(0) = 2
        weeks(1) = 0 | garmentOf(0, 2) = 18 | weeks(1) = 1 | garmentOf(0, 2) = 18
        """);
    T.run("(2) a GUEST leaves its own of NAME 0, and takes it at 1", """
        person(0) | garment(0, 0) | garment(0, 0) | weeks(1) | sew(0, 2, 1) | sew(1, 2, 2) | weeks(1) = 2
        garmentOf(0, 2) = 0 | garmentOf(1, 2) = 1
        """);
    T.run("(2) one VAGUE whose only one came to the heap has w 0, and takes it", """
        person(2) | garment(0, 0) | weeks(1) | sew(0, 2, 20) | weeks(1) = 1 | garmentOf(0, 3) = 0
        """);
    T.run("(2) GARMENTS on the heap by numbers; w counts those taken before", """
        person(0) | person(2) | person(2) | 4 x garment(0, 0) | set(0, 3, 1) | sew(0, 3, -1) | sew(1, 3, -1) | sew(2, 3, -1) | sew(3, 3, -1)
        weeks(1) | now(2) = 15 | weeks(1) | of(1, 4) = 1 | of(2, 4) = 2 | now(2) = 12 | weeks(2) | now(2) = 12
        """);
    T.run("(2) the least person that isn't GONE and CLAIMS it has it", """
        person(5) | person(5) | person(5) | garment(2, 0) | sew(0, 3, -1) | weeks(1) | set(0, 3, 1) | weeks(1) = 0 | garmentOf(0, 3) = 1
        sew(0, 3, -1) | set(0, 3, 0) | weeks(2) = 0 | garmentOf(0, 3) = 0
        sew(0, 3, -1) | set(0, 3, 1) | set(1, 3, 1) | weeks(2) = 1
        """);
    T.run("(2) an owner with a greater number comes too late", """
        person(2) | person(1) | garment(1, 0) | sew(0, 3, -1) | weeks(2) = 0 | garmentOf(0, 3) = 0
        """);
    T.run("(3) PEOPLE that aren't GONE; after the table", """
        person(4) | person(4) | person(4) | garment(1, 0) | sew(0, 3, -1) | set(2, 3, 1) | set(2, 2, 17)
        weeks(1) | of(0, 2) = 1002 | of(1, 2) = 1002 | of(2, 2) = 1017 | weeks(1) | of(0, 2) = 1004 | of(1, 2) = 1006 | of(2, 2) = 1017
        """);
    T.run("WEEK is 1 more, with nobody there too; 13: n WEEKS go (1 to 60)", """
        weeks(1) = 0 | now(0) = 1 | weeks(60) = 0 | now(0) = 61 | weeks(0) = BEYOND | weeks(61) = BEYOND | weeks(-1) = BEYOND | now(0) = 61
        """);
    T.run("13: garments that are RIGHT then, as a set", """
        person(0) | person(2) | 5 x garment(0, 0) | 5 x garment(1, 0) | sew(9, 3, 0) | sew(0, 3, 1) | sew(5, 3, -1) | now(3) = 478
        weeks(1) = 990 | now(3) = 990
        """);
    String pen = "person(0) | garment(0, 2)\n";
    T.run("13: a pen's name from its first wash to its last", pen + """
        weeks(7) = 1 | garmentOf(0, 2) = 29 | of(0, 2) = 1007 | weeks(1) = 1 | garmentOf(0, 2) = 19 | of(0, 2) = 1008
        weeks(1) = 0 | garmentOf(0, 2) = 9 | of(0, 2) = 1008 | weeks(1) = 1 | garmentOf(0, 2) = 9 | of(0, 2) = 1009
        weeks(1) = 0 | garmentOf(0, 2) = 0 | weeks(1) = 0 | weeks(48) = 0 | of(0, 2) = 1009 | now(0) = 60
        """);
    T.run("13: sixty at once are sixty ones", pen + "weeks(60) = 0 | garmentOf(0, 2) = 0 | of(0, 2) = 1009 | now(0) = 60 | now(2) = 1");
  }

  public static void main(String[] args) {
    atFirst();
    sets();
    kinds();
    fades();
    reads();
    givesBack();
    claims();
    claimsCountAll();
    minds();
    weekOne();
    table();
    T.end();
  }
}
