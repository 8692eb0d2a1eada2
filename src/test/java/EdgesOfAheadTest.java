// Section 2 of the document and promises 14 to 23: what comes, and what is best. The numbers due are reckoned by hand.
public final class EdgesOfAheadTest {
  private static final Told T = new Told();
  /** Person 0 of band 0 gets the pale names of person 3; as a guest it keeps them. */
  private static final String FOUR = "4 x person(0) | garment(3, 0)\n";

  private static void onAndThen() {
    T.run("14: NAME (what 0), WITH (1; -1) of a garment n WEEKS (0 to 100) AHEAD", """
        person(1) | garment(0, 0) | on(0, 0, 0) = 99 | on(0, 0, 1) = 0 | on(0, 1, 0) = 98 | on(0, 79, 0) = 20 | on(0, 79, 1) = 0
        on(0, 80, 0) = 19 | on(0, 80, 1) = 0 | on(0, 81, 0) = 18 | on(0, 81, 1) = -1 | on(0, 82, 0) = 18 | on(0, 82, 1) = 0
        on(0, 99, 0) = 9 | on(0, 99, 1) = -1 | on(0, 100, 0) = 9 | on(0, 100, 1) = 0
        on(0, 101, 0) = BEYOND | on(0, -1, 0) = BEYOND | on(0, 0, 2) = BEYOND | on(0, 0, -1) = BEYOND
        now(0) = 0 | garmentOf(0, 2) = 99 | sew(0, 3, -1) | on(0, 0, 1) = -1 | on(0, 1, 1) = -1 | on(0, 2, 1) = 0
        """);
    T.run("2: AHEAD: n WEEKS go on with all as it is: the WEEK's rest by 2, too", """
        person(1) | garment(0, 0) | sew(0, 3, -1) | on(0, 1, 1) = -1 | weeks(1) | on(0, 1, 1) = 0 | on(0, 0, 1) = -1
        """);
    T.run("15: 1000 and CONTENT of a person n WEEKS (0 to 100) AHEAD", """
        person(4) | person(0) | then(0, 0) = 1000 | then(0, 1) = 1002 | then(0, 100) = 1200 | then(1, 100) = 1000
        set(0, 2, 799) | then(0, 100) = 1999 | set(0, 2, 800) | then(0, 100) = 1999 | then(0, 99) = 1998 | set(0, 2, -999) | then(0, 0) = 1
        then(0, 101) = BEYOND | then(0, -1) = BEYOND | then(2, 0) = BEYOND | of(0, 2) = 1
        """);
  }

  private static void lostAndComes() {
    T.run("16: In how many WEEKS (0 to 100) a garment isn't RIGHT first", FOUR + """
        lost(0) = 40 | sew(0, 2, 61) | lost(0) = 2 | sew(0, 2, 60) | lost(0) = 1 | sew(0, 3, -1) | lost(0) = 0 | sew(0, 3, 0) | lost(0) = 0
        lost(1) = BEYOND | lost(-1) = BEYOND
        """);
    T.run("16: at most: the table of the 80th brings it back once", "person(1) | garment(0, 0) | lost(0) = 81 | weeks(1) | sew(0, 2, 99) | lost(0) = 80");
    T.run("16: RIGHT: a garment WITH its OWNER, GONE or not", "4 x person(0) | garment(3, 0) | set(3, 3, 1) | lost(0) = 1");
    // As reckoned: 80 leaves 20 after 60 washes; then a wash in each second week, and its guest takes it until it is 0.
    String late = "person(0) | person(2) | garment(0, 0) | sew(0, 2, 80)\n";
    T.run("17: In how many WEEKS (0 to 100) a garment is WITH a person first", late + """
        comes(0, 0) = 0 | comes(0, 1) = 100 | sew(0, 2, 79) | comes(0, 1) = 98 | sew(0, 2, 81) | comes(0, 1) = 100
        sew(0, 2, 82) | comes(0, 1) = NONE | sew(0, 3, 1) | comes(0, 1) = 0 | sew(0, 3, -1) | comes(0, 0) = 2
        """);
    T.run("17: In how many WEEKS (0 to 100): in the 99th, and in the 101st", late + """
        weeks(1) | sew(0, 2, 80) | comes(0, 1) = 99 | sew(0, 2, 81) | comes(0, 1) = NONE | on(0, 100, 1) = -1
        weeks(1) | on(0, 100, 1) = 1 | comes(0, 1) = 100
        """);
    T.run("17: NONE", "person(0) | person(0) | garment(0, 0) | comes(0, 1) = NONE | sew(0, 2, 0) | sew(0, 3, -1) | comes(0, 0) = NONE");
  }

  private static void mark() {
    T.run("18: of several the least", "person(0) | garment(0, 2) | mark(0, 1) = 0 | mark(0, 7) = 0 | sew(0, 3, -1) | sew(0, 2, 0) | mark(0, 40) = 0");
    // Sewn, 22 leaves 21, which is read for person 0; 9 or more leave less than 20: to the heap, and its guest takes it.
    T.run("18: RIGHT in most of the next n WEEKS (as each of them ends)", FOUR + """
        sew(0, 2, 22) | mark(0, 1) = 0 | mark(0, 2) = 1 | garmentOf(0, 1) = 0 | weeks(1) | sew(0, 2, 22) | sew(0, 3, 3) | mark(0, 1) = 1
        """);
    // In an odd week 29 less 9 is read for person 0, 29 less 10 is taken from the table.
    T.run("18: The MARK (0 to 2)", FOUR + """
        weeks(1) | sew(0, 2, 29) | sew(0, 3, 3) | heat(59) | mark(0, 1) = 0 | heat(60) | mark(0, 1) = 1
        sew(0, 2, 30) | mark(0, 1) = 0 | sew(0, 2, 32) | heat(83) | mark(0, 1) = 2 | heat(77) | mark(0, 1) = 0 | sew(0, 1, 1) | mark(0, 1) = 0
        """);
    // Sewn, 61 is RIGHT once and then stays with person 0; else it is pale in the 5th week, and its minder takes it in the 6th and 8th.
    T.run("18: in most of them, be it by one", """
        person(1) | person(1) | set(1, 1, 0) | garment(1, 0) | sew(0, 2, 61) | mark(0, 6) = 0 | mark(0, 7) = 0 | mark(0, 8) = 1 | mark(0, 10) = 1
        """);
    // Sewn it is RIGHT in 39 weeks of 40; ironed in 3 and, from 59 on, with person 0.
    T.run("18: n WEEKS (1 to 40)", FOUR + "mark(0, 40) = 0 | mark(0, 41) = BEYOND | mark(0, 0) = BEYOND | mark(1, 1) = BEYOND");
    T.run("18: HEAT as it is", FOUR + "weeks(1) | sew(0, 2, 26) | sew(0, 3, 3) | heat(41) | mark(0, 1) = 1 | sew(0, 2, 31) | heat(90) | mark(0, 1) = 1");
  }

  private static void kind() {
    T.run("19: The KIND as one of which one has most of its own WITH it; of several the least", """
        person(5) | garment(0, 0) | kind(0, 1) = 0 | kind(0, 60) = 0 | sew(0, 3, -1) | sew(0, 2, 0) | kind(0, 1) = 0 | kind(0, 2) = 1
        sew(0, 2, 1) | kind(0, 2) = 0 | of(0, 0) = 5 | kind(0, 0) = BEYOND | kind(0, 61) = BEYOND | kind(1, 1) = BEYOND
        """);
    T.run("19: its own alone count", """
        person(0) | person(0) | 3 x garment(1, 0) | sew(0, 3, -1) | sew(1, 3, -1) | sew(2, 3, -1) | kind(0, 2) = 0
        sew(0, 3, 0) | sew(1, 3, 0) | sew(2, 3, 0) | sew(0, 2, 50) | sew(1, 2, 50) | sew(2, 2, 50) | kind(0, 1) = 0
        """);
    // Two of name 0 on the heap: one minder takes both, one vague but the first; a guest none.
    T.run("19: most", "person(0) | garment(0, 0) | garment(0, 0) | sew(0, 3, -1) | sew(1, 3, -1) | sew(0, 2, 0) | sew(1, 2, 0) | kind(0, 2) = 1");
    // Two pale ones on the heap: all but one vague take both, and lose both to person 0; one vague has the second yet.
    T.run("19: VAGUE", """
        4 x person(1) | weeks(1) | garment(3, 0) | garment(3, 0) | sew(0, 2, 39) | sew(1, 2, 37) | sew(0, 3, -1) | sew(1, 3, -1)
        kind(3, 1) = 0 | kind(3, 2) = 0 | kind(3, 3) = 2 | kind(3, 4) = 0
        """);
    // One deaf keeps 70 of person 0, who is vague and so takes garment 2 for good; else that takes garment 0 when it is pale.
    T.run("19: DEAF", """
        person(2) | person(0) | person(0) | garment(1, 0) | sew(0, 2, 27) | garment(0, 2) | sew(1, 2, 80) | sew(1, 3, 1)
        garment(2, 0) | sew(2, 2, 0) | sew(2, 3, -1) | kind(1, 7) = 0 | kind(1, 8) = 3
        """);
    // The second is name 0 on the heap, which a minder takes and a guest doesn't; the first is with either.
    T.run("19: most, be it by one", "person(0) | garment(0, 0) | garment(0, 0) | sew(1, 3, -1) | sew(1, 2, 0) | kind(0, 1) = 0 | kind(0, 2) = 1");
    // In the 1st week all kinds of person 2 take garment 0. Guests, minders and the deaf take 1 and 2, and lose both to
    // person 0; one vague leaves 1 to person 3; one magpie takes 1, loses it to person 0, and leaves 2. In the 3rd week
    // persons 0 and 1 have lost their own. Of one magpie: person 0 has 1, so person 1 takes 0, and 2 is left for it. Of one
    // vague: persons 0 and 1 take 0 and 2. Of the others: 2 isn't on the heap, and person 1 takes 0.
    T.run("19: MAGPIE", """
        person(2) | person(2) | person(0) | person(5) | set(2, 1, 0) | set(3, 1, 2) | weeks(1)
        garment(2, 0) | sew(0, 2, 10) | sew(0, 3, -1) | garment(2, 2) | sew(1, 2, 60) | sew(1, 3, -1) | garment(2, 0) | sew(2, 2, 30) | sew(2, 3, -1)
        garment(0, 0) | sew(3, 2, 22) | garment(1, 0) | sew(4, 2, 22) | garment(3, 0)
        kind(2, 1) = 0 | kind(2, 2) = 0 | kind(2, 3) = 5 | of(2, 0) = 0 | turn(2, 5) | on(2, 3, 1) = 2 | turn(2, 2) | on(2, 3, 1) = 1 | turn(2, 1) | on(2, 3, 1) = 0
        """);
    T.run("19: one that is GONE takes none", "person(0) | garment(0, 0) | sew(0, 3, -1) | sew(0, 2, 0) | set(0, 3, 1) | kind(0, 2) = 0");
  }

  private static void warmest() {
    T.run("20: The greatest HEAT (20 to 90)", FOUR + """
        sew(0, 1, 2) | sew(0, 2, 75) | warmest(0, 1) = 90 | sew(0, 2, 74) | warmest(0, 1) = 89 | sew(0, 2, 73) | warmest(0, 1) = 83
        sew(0, 2, 64) | warmest(0, 1) = 29 | sew(0, 2, 63) | warmest(0, 1) = 23 | sew(0, 2, 62) | warmest(0, 1) = NONE
        sew(0, 2, 90) | warmest(0, 2) = 90 | sew(0, 2, 89) | warmest(0, 2) = 89 | now(1) = 60
        """);
    T.run("20: ironed on", FOUR + """
        sew(0, 1, 1) | sew(0, 2, 73) | warmest(0, 1) = 90 | sew(0, 2, 72) | warmest(0, 1) = 89 | sew(0, 2, 71) | warmest(0, 1) = 79
        sew(0, 2, 70) | warmest(0, 1) = 69 | sew(0, 2, 69) | warmest(0, 1) = 59 | sew(0, 2, 68) | warmest(0, 1) = NONE
        """);
    T.run("20: n WEEKS (1 to 40) AHEAD", FOUR + """
        warmest(0, 39) = 90 | warmest(0, 40) = NONE | warmest(0, 0) = BEYOND | warmest(0, 41) = BEYOND
        """);
    // In an odd week its guest takes it from the table while anything of the name is left.
    T.run("20: the greatest, though cooler ones may not do", FOUR + """
        weeks(1) | sew(0, 1, 2) | sew(0, 3, 3) | sew(0, 2, 16) | warmest(0, 1) = 90 | sew(0, 2, 15) | warmest(0, 1) = 89
        sew(0, 2, 4) | warmest(0, 1) = 23 | sew(0, 2, 3) | warmest(0, 1) = NONE | sew(0, 2, 34) | warmest(0, 1) = 90
        sew(0, 2, 35) | warmest(0, 1) = NONE
        """);
  }

  private static void plain() {
    T.run("21: The least NAME (0 to 99)", FOUR + """
        plain(0, 1) = 61 | plain(0, 2) = 2 | plain(0, 38) = 20 | plain(0, 39) = 99 | plain(0, 40) = NONE | plain(0, 60) = NONE
        garmentOf(0, 2) = 99 | plain(0, 0) = BEYOND | plain(0, 61) = BEYOND
        sew(0, 1, 2) | plain(0, 1) = 70 | heat(90) | plain(0, 1) = 75 | plain(0, 3) = NONE
        """);
    T.run("21: NAME 0 is enough for one that doesn't read", "person(1) | garment(0, 0) | weeks(1) | plain(0, 1) = 0 | plain(0, 2) = 22 | plain(0, 3) = 0");
    T.run("21: NONE", "person(0) | person(2) | garment(0, 0) | sew(0, 3, 1) | plain(0, 1) = NONE | plain(0, 60) = NONE");
  }

  private static void teachAndBest() {
    T.run("22: Who, were it a MINDER from now on, lets most garments be RIGHT; of several the least", """
        6 x person(2) | teach(1) = 0 | teach(60) = 0 | garment(0, 0) | teach(1) = 0 | sew(0, 3, 5) | teach(1) = 5
        garment(0, 0) | sew(1, 3, 4) | teach(1) = 4 | garment(0, 0) | sew(2, 3, 5) | teach(1) = 5 | of(5, 0) = 2
        set(5, 3, 1) | teach(1) = 4 | set(4, 3, 1) | teach(1) = 0 | teach(0) = BEYOND | teach(61) = BEYOND
        """);
    // 40 that is left is read for person 0, its owner; neither one vague nor a guest would hand it in.
    T.run("22: a MINDER, who gives back pale ones too", """
        person(0) | person(2) | person(0) | garment(0, 0) | sew(0, 2, 41) | sew(0, 3, 1) | teach(1) = 1 | sew(0, 3, 2) | teach(1) = 2 | teach(60) = 0
        """);
    // Two of person 3 are read for it while 60 is left, which is for two weeks; one of person 0 for longer.
    T.run("22: n WEEKS AHEAD", """
        person(0) | person(2) | person(2) | person(0) | garment(0, 0) | sew(0, 3, 1) | garment(3, 0) | garment(3, 0) | sew(1, 3, 2) | sew(2, 3, 2)
        sew(1, 2, 62) | sew(2, 2, 62) | teach(1) = 2 | teach(2) = 2 | teach(3) = 1
        """);
    T.run("22: of all PEOPLE; NONE: nobody is there", """
        teach(1) = NONE | person(0) | teach(1) = 0 | set(0, 3, 1) | teach(1) = 0 | person(0) | teach(1) = 0
        """);
    T.run("23: Who is CONTENT most; of several the least", """
        6 x person(0) | best(0) = 0 | best(100) = 0 | set(5, 2, 1) | best(0) = 5 | set(4, 2, 1) | best(0) = 4 | set(0, 2, 1) | best(0) = 0
        set(0, 2, -999) | set(1, 2, -999) | set(2, 2, -999) | set(3, 2, -998) | set(4, 2, -999) | set(5, 2, -998) | best(0) = 3
        best(-1) = BEYOND | best(101) = BEYOND
        """);
    T.run("23: n WEEKS (0 to 100) AHEAD", """
        person(0) | person(4) | set(0, 2, 199) | best(99) = 0 | best(100) = 1 | set(0, 2, 200) | best(100) = 0
        turn(0, 4) | turn(1, 0) | set(0, 2, 0) | set(1, 2, 10) | best(4) = 1 | best(5) = 0 | best(6) = 0 | turn(0, 0) | turn(1, 4)
        set(0, 2, 999) | set(1, 2, 990) | best(4) = 0 | best(5) = 0 | best(100) = 0
        """);
    T.run("23: of all PEOPLE; NONE: nobody is there", """
        best(0) = NONE | person(0) | best(0) = 0 | set(0, 3, 1) | best(0) = 0 | person(0) | set(0, 2, 3) | best(100) = 0
        """);
  }

  public static void main(String[] args) {
    onAndThen();
    lostAndComes();
    mark();
    kind();
    warmest();
    plain();
    teachAndBest();
    T.end();
  }
}
