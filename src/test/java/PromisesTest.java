// For each promise of the document: ordinary inputs, its edges, and wrong inputs.
public final class PromisesTest {
  private static final long BEYOND = -1000000001L;
  private static final long FULL = -1000000002L;
  private static final long KIND = -1000000003L;
  private static final long NONE = -1000000004L;
  private static final long STATE = -1000000005L;
  private static final long MISSING = -1000000006L;
  private static final long SIZE = -1000000007L;
  private static final int GUEST = 0, MINDER = 1, VAGUE = 2, DEAF = 3, DAUGHTER = 4, MAGPIE = 5;
  private static final int SEWN = 0, IRONED = 1, PEN = 2;
  private static final int[] WILD = {Integer.MIN_VALUE, -1000000001, -2, 101, 1 << 16, Integer.MAX_VALUE};
  private static int wrong = 0;
  private static int asked = 0;

  private static void due(int promise, String call, long got, long want) {
    asked++;
    if (got != want) {
      wrong++;
      System.out.println("promise " + promise + ": " + call + " answered " + got + ", due is " + want);
    }
  }

  private static void same(int promise, String call, String got, String want) {
    asked++;
    if (!got.equals(want)) {
      wrong++;
      System.out.println("promise " + promise + ": " + call + " left\n  " + got + "\n  due is\n  " + want);
    }
  }

  /** All that can be seen without a finding, but for sheets and status. */
  private static String seen(CollarNames x) {
    StringBuilder b = new StringBuilder();
    for (int what = 0; what <= 5; what++) b.append(x.now(what)).append(' ');
    for (int what = 0; what <= 3; what++) b.append(x.count(what)).append(' ');
    for (int p = 0; p < x.count(0); p++) {
      b.append("| ");
      for (int what = 0; what <= 5; what++) b.append(x.of(p, what)).append(' ');
    }
    for (int g = 0; g < x.count(1); g++) {
      b.append("/ ");
      for (int what = 0; what <= 5; what++) b.append(x.garmentOf(g, what)).append(' ');
    }
    return b.toString();
  }

  private static CollarNames people(int... kinds) {
    CollarNames x = new CollarNames();
    for (int kind : kinds) x.person(kind);
    return x;
  }

  private static void tape(CollarNames x, String text) {
    for (int i = 0; i < text.length(); i++) x.feed(text.charAt(i), 1);
  }

  private static void fault(int people, String text, int place) {
    CollarNames x = new CollarNames();
    for (int p = 0; p < people; p++) x.person(GUEST);
    String before = seen(x);
    tape(x, text);
    due(26, "home() of <" + text + ">", x.home(), -1 - place);
    same(26, "home() of <" + text + ">", seen(x), before);
    due(26, "status(-1) after <" + text + ">", x.status(-1), 0);
  }

  private static void newObject() {
    CollarNames x = new CollarNames();
    same(1, "a new object", seen(x), "0 60 0 0 0 10000 0 0 0 0 ");
    due(1, "undo()", x.undo(), NONE);
    due(1, "tear()", x.tear(), 0);
    for (int s = 0; s < 4; s++) due(1, "lays of sheet " + s, x.lays(s), MISSING);
    due(1, "status(-1)", x.status(-1), 5);
  }

  private static void heat() {
    CollarNames x = new CollarNames();
    due(2, "heat(20)", x.heat(20), 60);
    due(2, "heat(90)", x.heat(90), 20);
    due(2, "heat(19)", x.heat(19), BEYOND);
    due(2, "heat(91)", x.heat(91), BEYOND);
    for (int w : WILD) due(2, "heat(" + w + ")", x.heat(w), BEYOND);
    due(2, "now(1)", x.now(1), 90);
  }

  private static void now() {
    CollarNames x = people(GUEST, VAGUE, MINDER);
    x.garment(0, SEWN);
    x.garment(1, PEN);
    x.garment(2, PEN);
    x.sew(1, 3, -1);
    x.sew(2, 3, 0);
    x.set(1, 3, 1);
    x.set(0, 2, -999);
    x.set(1, 2, 400);
    due(3, "now(2)", x.now(2), 2);
    due(3, "now(3)", x.now(3), 1);
    due(3, "now(4)", x.now(4), 5);
    due(3, "now(5)", x.now(5), 10000 - 999 + 400);
    due(3, "now(0)", x.now(0), 0);
    x.weeks(3);
    due(3, "now(0)", x.now(0), 3);
    due(3, "now(-1)", x.now(-1), BEYOND);
    due(3, "now(6)", x.now(6), BEYOND);
    for (int w : WILD) due(3, "now(" + w + ")", x.now(w), BEYOND);
  }

  private static void person() {
    CollarNames x = new CollarNames();
    due(4, "person(-1)", x.person(-1), BEYOND);
    for (int p = 0; p < 6; p++) {
      due(4, "person(" + (5 - p) + ")", x.person(5 - p), p);
      due(4, "of kind", x.of(p, 0), 5 - p);
      due(4, "of band", x.of(p, 1), p % 3);
      due(4, "of content", x.of(p, 2), 1000);
      due(4, "of gone", x.of(p, 3), 0);
    }
    due(4, "person(0) as a 7th", x.person(0), FULL);
    due(4, "person(6) as a 7th", x.person(6), BEYOND);
    due(4, "count(0)", x.count(0), 6);
  }

  /** Somebody put where one was that an undo took away is as new. */
  private static void personAfterUndo() {
    CollarNames x = people(GUEST);
    x.garment(0, PEN);
    x.image();
    x.person(VAGUE);
    x.set(1, 1, 2);
    x.set(1, 2, 77);
    x.set(1, 3, 1);
    x.garment(1, PEN);
    x.sew(1, 2, 5);
    x.sew(1, 3, 0);
    x.undo();
    due(4, "person(3)", x.person(DEAF), 1);
    same(4, "of the new one", x.of(1, 0) + " " + x.of(1, 1) + " " + x.of(1, 2) + " " + x.of(1, 3), "3 1 1000 0");
    due(10, "garment(0, 1)", x.garment(0, IRONED), 1);
    same(10, "of the new one", x.garmentOf(1, 1) + " " + x.garmentOf(1, 2) + " " + x.garmentOf(1, 3), "1 99 0");
  }

  private static void of() {
    int[] minds = {2 - 1, 4 - 3, 3, 2 - 1 + 1, 4 - 3, 2 + 1 + 1};
    int[] mindsOwn = {2, 4, 2, 3, 6, 2};
    int[] mindsNone = {0, 0, 0, 1, 2, 0};
    for (int kind = 0; kind < 6; kind++) {
      CollarNames x = people(kind, GUEST);
      due(5, "of(0, 5) of nothing, kind " + kind, x.of(0, 5), 1000 + mindsNone[kind]);
      x.garment(0, SEWN);
      x.garment(0, SEWN);
      x.garment(1, SEWN);
      due(5, "of(0, 5) of its own, kind " + kind, x.of(0, 5), 1000 + mindsOwn[kind]);
      x.sew(2, 3, 0);
      due(5, "of(0, 5), kind " + kind, x.of(0, 5), 1000 + minds[kind]);
      due(5, "of(0, 4)", x.of(0, 4), 7);
      due(5, "of(1, 4)", x.of(1, 4), 0);
      due(5, "of(0, 0)", x.of(0, 0), kind);
      x.set(0, 2, -5);
      due(5, "of(0, 2)", x.of(0, 2), 995);
      x.set(0, 3, 1);
      due(5, "of(0, 3)", x.of(0, 3), 1);
      due(5, "of(0, 5) of one gone, kind " + kind, x.of(0, 5), 1000 + minds[kind]);
      due(5, "of(2, 0)", x.of(2, 0), BEYOND);
      due(5, "of(-1, 4)", x.of(-1, 4), BEYOND);
      due(5, "of(0, 6)", x.of(0, 6), BEYOND);
      due(5, "of(0, -1)", x.of(0, -1), BEYOND);
      for (int w : WILD) due(5, "of(" + w + ", 0)", x.of(w, 0), BEYOND);
    }
  }

  private static void set() {
    CollarNames x = people(GUEST, GUEST);
    due(6, "set(1, 1, 2)", x.set(1, 1, 2), 1);
    due(6, "set(1, 1, 0)", x.set(1, 1, 0), 2);
    due(6, "set(1, 2, -999)", x.set(1, 2, -999), 0);
    due(6, "set(1, 2, 999)", x.set(1, 2, 999), -999);
    due(6, "set(1, 3, 1)", x.set(1, 3, 1), 0);
    due(6, "set(1, 3, 0)", x.set(1, 3, 0), 1);
    String before = seen(x);
    due(6, "set(1, 0, 0)", x.set(1, 0, 0), BEYOND);
    due(6, "set(1, 4, 0)", x.set(1, 4, 0), BEYOND);
    due(6, "set(2, 1, 0)", x.set(2, 1, 0), BEYOND);
    due(6, "set(-1, 1, 0)", x.set(-1, 1, 0), BEYOND);
    due(6, "set(1, 1, 3)", x.set(1, 1, 3), BEYOND);
    due(6, "set(1, 1, -1)", x.set(1, 1, -1), BEYOND);
    due(6, "set(1, 2, 1000)", x.set(1, 2, 1000), BEYOND);
    due(6, "set(1, 2, -1000)", x.set(1, 2, -1000), BEYOND);
    due(6, "set(1, 3, 2)", x.set(1, 3, 2), BEYOND);
    due(6, "set(1, 3, -1)", x.set(1, 3, -1), BEYOND);
    same(6, "wrong sets", seen(x), before);
  }

  private static void would() {
    int[] leastGiven = {60, 0, 100, 80, 0, 100};
    for (int kind = 0; kind < 6; kind++) {
      CollarNames x = people(kind, GUEST);
      x.garment(1, SEWN);
      for (int name = 0; name <= 99; name++) {
        x.sew(0, 2, name);
        due(7, "would(0, 0, 0) of kind " + kind + ", name " + name, x.would(0, 0, 0), name >= leastGiven[kind] ? 1 : 0);
        boolean takesAll = kind == VAGUE || kind == MAGPIE;
        due(7, "would(0, 0, 1) of kind " + kind + ", name " + name, x.would(0, 0, 1), takesAll ? 1 : 0);
        x.sew(0, 3, 0);
        boolean takesPlain = kind == MAGPIE && name >= 50;
        due(7, "would(0, 0, 1), has it, kind " + kind + ", name " + name, x.would(0, 0, 1), takesPlain ? 1 : 0);
        x.sew(0, 0, 0);
        x.sew(0, 3, -1);
        boolean takesOwn = takesAll || name >= 1 || kind == MINDER || kind == DAUGHTER;
        due(7, "would(0, 0, 1), its own, kind " + kind + ", name " + name, x.would(0, 0, 1), takesOwn ? 1 : 0);
        x.set(0, 3, 1);
        due(7, "would(0, 0, 1), gone, kind " + kind + ", name " + name, x.would(0, 0, 1), takesOwn ? 1 : 0);
        x.set(0, 3, 0);
        x.sew(0, 0, 1);
        x.sew(0, 3, 1);
      }
      due(7, "would(2, 0, 0)", x.would(2, 0, 0), BEYOND);
      due(7, "would(-1, 0, 0)", x.would(-1, 0, 0), BEYOND);
      due(7, "would(0, 1, 0)", x.would(0, 1, 0), BEYOND);
      due(7, "would(0, -1, 0)", x.would(0, -1, 0), BEYOND);
      due(7, "would(0, 0, -1)", x.would(0, 0, -1), BEYOND);
      due(7, "would(0, 0, 2)", x.would(0, 0, 2), BEYOND);
    }
  }

  /** w is its own and others' together. */
  private static void wouldWithBoth() {
    CollarNames x = people(VAGUE, GUEST);
    x.garment(0, SEWN);
    x.garment(1, SEWN);
    x.garment(1, SEWN);
    x.sew(1, 3, 0);
    due(7, "would(0, 2, 1) with one of each", x.would(0, 2, 1), 0);
  }

  private static void turnAndAs() {
    boolean[][] under = {
        {true, false, false, false, false, false},
        {true, true, false, false, false, false},
        {true, false, true, false, false, false},
        {true, false, false, true, false, false},
        {true, true, false, false, true, false},
        {true, false, true, false, false, true}};
    CollarNames x = people(GUEST);
    x.set(0, 2, -17);
    for (int kind = 0; kind < 6; kind++) {
      due(8, "turn(0, " + kind + ")", x.turn(0, kind), Math.max(0, kind - 1));
      due(8, "of(0, 0)", x.of(0, 0), kind);
      for (int as = 0; as < 6; as++) {
        due(9, "as(0, " + as + ") of kind " + kind, x.as(0, as), under[kind][as] ? 983 : KIND);
      }
    }
    due(8, "turn(0, 5)", x.turn(0, 5), 5);
    due(8, "turn(0, 6)", x.turn(0, 6), BEYOND);
    due(8, "turn(0, -1)", x.turn(0, -1), BEYOND);
    due(8, "turn(1, 0)", x.turn(1, 0), BEYOND);
    due(8, "turn(-1, 0)", x.turn(-1, 0), BEYOND);
    due(8, "of(0, 0)", x.of(0, 0), 5);
    due(9, "as(1, 0)", x.as(1, 0), BEYOND);
    due(9, "as(-1, 0)", x.as(-1, 0), BEYOND);
    due(9, "as(0, 6)", x.as(0, 6), BEYOND);
    due(9, "as(0, -1)", x.as(0, -1), BEYOND);
  }

  private static void garment() {
    CollarNames x = people(GUEST, VAGUE);
    x.set(1, 3, 1);
    due(10, "garment(2, 0)", x.garment(2, 0), BEYOND);
    due(10, "garment(-1, 0)", x.garment(-1, 0), BEYOND);
    due(10, "garment(0, 3)", x.garment(0, 3), BEYOND);
    due(10, "garment(0, -1)", x.garment(0, -1), BEYOND);
    for (int g = 0; g < 10; g++) {
      due(10, "garment(1, " + g % 3 + ")", x.garment(1, g % 3), g);
      due(10, "garmentOf owner", x.garmentOf(g, 0), 1);
      due(10, "garmentOf mark", x.garmentOf(g, 1), g % 3);
      due(10, "garmentOf name", x.garmentOf(g, 2), 99);
      due(10, "garmentOf with", x.garmentOf(g, 3), 1);
    }
    due(10, "garment(1, 0) as an 11th", x.garment(1, 0), FULL);
    due(10, "garment(1, 3) as an 11th", x.garment(1, 3), BEYOND);
    due(10, "count(1)", x.count(1), 10);
  }

  private static void garmentOf() {
    CollarNames x = people(GUEST, GUEST, GUEST, GUEST, GUEST, GUEST);
    x.garment(4, SEWN);
    for (int h = 20; h <= 90; h++) {
      x.heat(h);
      x.sew(0, 1, SEWN);
      due(11, "fades sewn at " + h, x.garmentOf(0, 5), 1);
      x.sew(0, 1, IRONED);
      int above = h < 60 ? 0 : h < 70 ? 1 : h < 80 ? 2 : h < 90 ? 3 : 4;
      due(11, "fades ironed at " + h, x.garmentOf(0, 5), 9 + above);
      x.sew(0, 1, PEN);
      due(11, "fades pen at " + h, x.garmentOf(0, 5), h / 6);
    }
    readsFor(x, 4, 1, -1);
    x.set(4, 3, 1);
    readsFor(x, 1, 1, -1);
    x.set(1, 3, 1);
    readsFor(x, -1, -1, -1);
    x.set(5, 1, 1);
    readsFor(x, 5, 5, -1);
    x.set(4, 1, 0);
    readsFor(x, 0, 0, -1);
    x.sew(0, 3, -1);
    due(11, "garmentOf(0, 3)", x.garmentOf(0, 3), -1);
    due(11, "garmentOf(1, 0)", x.garmentOf(1, 0), BEYOND);
    due(11, "garmentOf(-1, 0)", x.garmentOf(-1, 0), BEYOND);
    due(11, "garmentOf(0, 6)", x.garmentOf(0, 6), BEYOND);
    due(11, "garmentOf(0, -1)", x.garmentOf(0, -1), BEYOND);
  }

  private static void readsFor(CollarNames x, int plain, int pale, int none) {
    int[] names = {99, 60, 59, 20, 19, 0};
    int[] to = {plain, plain, pale, pale, none, none};
    for (int i = 0; i < names.length; i++) {
      x.sew(0, 2, names[i]);
      due(11, "garmentOf(0, 4) with name " + names[i], x.garmentOf(0, 4), to[i]);
    }
  }

  private static void sew() {
    CollarNames x = people(GUEST, GUEST);
    x.garment(0, SEWN);
    due(12, "sew(0, 0, 1)", x.sew(0, 0, 1), 0);
    due(12, "garmentOf(0, 3)", x.garmentOf(0, 3), 0);
    due(12, "sew(0, 1, 2)", x.sew(0, 1, 2), 0);
    due(12, "sew(0, 1, 1)", x.sew(0, 1, 1), 2);
    due(12, "sew(0, 2, 0)", x.sew(0, 2, 0), 99);
    due(12, "sew(0, 2, 99)", x.sew(0, 2, 99), 0);
    due(12, "sew(0, 3, -1)", x.sew(0, 3, -1), 0);
    due(12, "sew(0, 3, 1)", x.sew(0, 3, 1), -1);
    String before = seen(x);
    int[][] bad = {{1, 0, 0}, {-1, 0, 0}, {0, -1, 0}, {0, 4, 0}, {0, 0, 2}, {0, 0, -1}, {0, 1, 3}, {0, 1, -1},
        {0, 2, 100}, {0, 2, -1}, {0, 3, 2}, {0, 3, -2}};
    for (int[] b : bad) due(12, "sew(" + b[0] + ", " + b[1] + ", " + b[2] + ")", x.sew(b[0], b[1], b[2]), BEYOND);
    same(12, "wrong sews", seen(x), before);
  }

  private static void weeks() {
    CollarNames x = people(GUEST, VAGUE, GUEST);
    x.garment(0, PEN);
    x.garment(2, IRONED);
    x.sew(1, 2, 60);
    due(13, "weeks(1)", x.weeks(1), 3);
    due(13, "garmentOf(1, 3): the band of 2 is 2's alone, name 50", x.garmentOf(1, 3), 2);
    due(13, "weeks(0)", x.weeks(0), BEYOND);
    due(13, "weeks(61)", x.weeks(61), BEYOND);
    for (int w : WILD) due(13, "weeks(" + w + ")", x.weeks(w), BEYOND);
    due(13, "now(0)", x.now(0), 1);
    due(13, "weeks(60)", x.weeks(60), x.now(3));
    due(13, "now(0)", x.now(0), 61);
  }

  /** Only reached by more calls than are promised, but the program keeps to it all the same. */
  private static void lastWeek() {
    CollarNames x = people(GUEST);
    for (int i = 0; i < 1666; i++) x.weeks(60);
    due(13, "now(0)", x.now(0), 99960);
    due(13, "weeks(40)", x.weeks(40), STATE);
    due(13, "weeks(61)", x.weeks(61), BEYOND);
    due(13, "now(0)", x.now(0), 99960);
    due(13, "weeks(39)", x.weeks(39), 0);
    due(13, "weeks(1)", x.weeks(1), STATE);
    due(13, "then(0, 100)", x.then(0, 100), 1000);
    due(13, "now(0)", x.now(0), 99999);
    due(37, "status(4)", x.status(4), 2);
  }

  /** What a week does, in its order. */
  private static void oneWeek() {
    CollarNames x = people(GUEST, VAGUE, GUEST);
    x.garment(0, PEN);
    x.sew(0, 2, 5);
    due(13, "weeks(1), even: to the heap, no table", x.weeks(1), 0);
    due(13, "name 0 at least", x.garmentOf(0, 2), 0);
    due(13, "now(2)", x.now(2), 1);
    due(13, "weeks(1), odd: the vague one takes it", x.weeks(1), 0);
    due(13, "garmentOf(0, 3)", x.garmentOf(0, 3), 1);
    due(13, "of(1, 2)", x.of(1, 2), 1001);
    x.garment(2, SEWN);
    x.sew(1, 3, -1);
    x.sew(1, 2, 50);
    x.weeks(1);
    due(13, "the heap isn't washed", x.garmentOf(1, 2), 50);
    due(13, "what one vague keeps fades", x.garmentOf(0, 2), 0);
    x.set(1, 3, 1);
    x.set(1, 2, 100);
    x.sew(0, 2, 99);
    due(13, "weeks(1): one gone gives back", x.weeks(1), 3);
    due(13, "content of one gone stays", x.of(1, 2), 1100);
    due(13, "the table is laid for the owner", x.garmentOf(1, 3), 2);
  }

  /** The table goes by garments' numbers, and w is what one has then. */
  private static void table() {
    CollarNames x = people(VAGUE, VAGUE, MAGPIE);
    for (int g = 0; g < 5; g++) {
      x.garment(2, SEWN);
      x.sew(g, 2, g < 4 ? 10 : 50);
      x.sew(g, 3, -1);
    }
    x.set(0, 2, 998);
    x.weeks(1);
    due(13, "now(2) with no table", x.now(2), 31);
    x.weeks(1);
    due(13, "of(0, 4)", x.of(0, 4), 1);
    due(13, "of(1, 4)", x.of(1, 4), 2);
    due(13, "of(2, 4)", x.of(2, 4), 4 + 16);
    due(13, "now(2)", x.now(2), 8);
    due(13, "content is told after the table", x.of(2, 2), 1002);
    due(13, "content 999", x.of(0, 2), 1999);
    x.weeks(1);
    due(13, "content held", x.of(0, 2), 1999);
  }

  private static void contentHeldBelow() {
    CollarNames x = people(MINDER, GUEST);
    x.turn(0, GUEST);
    for (int g = 0; g < 3; g++) {
      x.garment(1, SEWN);
      x.sew(g, 2, 40);
      x.sew(g, 3, 0);
    }
    x.set(0, 2, -995);
    x.weeks(1);
    due(13, "of(0, 2)", x.of(0, 2), 2);
    x.weeks(1);
    due(13, "content held", x.of(0, 2), 1);
  }

  private static CollarNames ward() {
    CollarNames x = people(GUEST, MINDER, VAGUE, DEAF, DAUGHTER, MAGPIE);
    for (int g = 0; g < 10; g++) x.garment(g % 6, g % 3);
    x.sew(7, 3, -1);
    x.sew(8, 3, 5);
    x.sew(9, 2, 65);
    return x;
  }

  /** Each look ahead is what the weeks then bring, and changes nothing. */
  private static void ahead() {
    CollarNames x = ward();
    String before = seen(x);
    int[] lost = new int[10];
    int[][] comes = new int[10][6];
    for (int g = 0; g < 10; g++) {
      lost[g] = x.garmentOf(g, 3) == x.garmentOf(g, 0) ? -1 : 0;
      for (int p = 0; p < 6; p++) comes[g][p] = x.garmentOf(g, 3) == p ? 0 : -1;
    }
    CollarNames y = ward();
    for (int n = 0; n <= 100; n++) {
      if (n > 0) y.weeks(1);
      for (int g = 0; g < 10; g++) {
        due(14, "on(" + g + ", " + n + ", 0)", x.on(g, n, 0), y.garmentOf(g, 2));
        due(14, "on(" + g + ", " + n + ", 1)", x.on(g, n, 1), y.garmentOf(g, 3));
        if (lost[g] < 0 && y.garmentOf(g, 3) != y.garmentOf(g, 0)) lost[g] = n;
        int with = y.garmentOf(g, 3);
        if (with >= 0 && comes[g][with] < 0) comes[g][with] = n;
      }
      int most = 0;
      for (int p = 0; p < 6; p++) {
        due(15, "then(" + p + ", " + n + ")", x.then(p, n), y.of(p, 2));
        if (y.of(p, 2) > y.of(most, 2)) most = p;
      }
      due(23, "best(" + n + ")", x.best(n), most);
    }
    for (int g = 0; g < 10; g++) {
      due(16, "lost(" + g + ")", x.lost(g), lost[g] < 0 ? NONE : lost[g]);
      for (int p = 0; p < 6; p++) {
        due(17, "comes(" + g + ", " + p + ")", x.comes(g, p), comes[g][p] < 0 ? NONE : comes[g][p]);
      }
    }
    same(14, "looks ahead", seen(x), before);
  }

  private static void aheadBeyond() {
    CollarNames x = people(GUEST);
    x.garment(0, SEWN);
    int[][] on = {{1, 0, 0}, {-1, 0, 0}, {0, -1, 0}, {0, 101, 0}, {0, 0, 2}, {0, 0, -1}};
    for (int[] o : on) due(14, "on(" + o[0] + ", " + o[1] + ", " + o[2] + ")", x.on(o[0], o[1], o[2]), BEYOND);
    int[][] then = {{1, 0}, {-1, 0}, {0, -1}, {0, 101}};
    for (int[] t : then) due(15, "then(" + t[0] + ", " + t[1] + ")", x.then(t[0], t[1]), BEYOND);
    due(16, "lost(1)", x.lost(1), BEYOND);
    due(16, "lost(-1)", x.lost(-1), BEYOND);
    int[][] comes = {{1, 0}, {-1, 0}, {0, 1}, {0, -1}};
    for (int[] c : comes) due(17, "comes(" + c[0] + ", " + c[1] + ")", x.comes(c[0], c[1]), BEYOND);
    due(23, "best(-1)", x.best(-1), BEYOND);
    due(23, "best(101)", x.best(101), BEYOND);
    due(23, "best(101) of nobody", new CollarNames().best(101), BEYOND);
    due(23, "best(100) of nobody", new CollarNames().best(100), NONE);
  }

  private static void lost() {
    CollarNames x = people(VAGUE, VAGUE);
    x.garment(1, SEWN);
    due(16, "lost(0): too pale in the 80th, whose table is laid", x.lost(0), 80);
    due(17, "comes(0, 0): from that table", x.comes(0, 0), 80);
    due(17, "comes(0, 1): has it", x.comes(0, 1), 0);
    CollarNames y = people(VAGUE);
    y.garment(0, SEWN);
    due(16, "lost(0): it takes its own in the 80th", y.lost(0), 81);
    CollarNames z = people(MINDER);
    z.weeks(1);
    z.garment(0, SEWN);
    z.sew(0, 2, 0);
    due(16, "lost(0): back by the table at once", z.lost(0), 2);
    CollarNames w = people(GUEST, VAGUE, GUEST, GUEST);
    w.garment(3, SEWN);
    due(16, "lost(0): 59 goes to the band's least", w.lost(0), 40);
    w.sew(0, 3, -1);
    due(16, "lost(0): on the heap now", w.lost(0), 0);
  }

  /** A guest has its own from every second table until the name is 0; then one vague may take it. */
  private static void comesAtTheEdge() {
    CollarNames x = people(GUEST, VAGUE);
    x.garment(0, SEWN);
    x.sew(0, 2, 80);
    due(17, "comes(0, 1): in the 100th", x.comes(0, 1), 100);
    x.weeks(1);
    x.sew(0, 2, 79);
    due(17, "comes(0, 1): in the 99th", x.comes(0, 1), 99);
    x.sew(0, 2, 81);
    due(17, "comes(0, 1): in the 101st", x.comes(0, 1), NONE);
    due(17, "on(0, 100, 1)", x.on(0, 100, 1), -1);
    x.weeks(1);
    due(17, "on(0, 100, 1), a week later", x.on(0, 100, 1), 1);
  }

  private static void marks() {
    CollarNames x = people(GUEST, GUEST, GUEST, GUEST);
    x.garment(3, PEN);
    due(18, "mark(0, 3): all alike", x.mark(0, 3), SEWN);
    due(18, "mark(0, 40)", x.mark(0, 40), SEWN);
    x.heat(20);
    x.sew(0, 2, 63);
    due(18, "mark(0, 1): sewn and pen alike", x.mark(0, 1), SEWN);
    // Band 0 reads pale names for person 0, a guest who never gives a pale one back:
    // the faster it fades to the heap, the sooner its owner finds it on the table.
    x.sew(0, 2, 22);
    x.sew(0, 0, 3);
    due(18, "mark(0, 1)", x.mark(0, 1), bestMark(x, 0, 1));
    due(18, "mark(0, 2): pen comes to the table", x.mark(0, 2), bestMark(x, 0, 2));
    for (int name = 0; name <= 99; name += 3) {
      x.sew(0, 2, name);
      for (int n = 1; n <= 40; n += 13) due(18, "mark(0, " + n + "), name " + name, x.mark(0, n), bestMark(x, 0, n));
    }
    due(18, "garmentOf(0, 1)", x.garmentOf(0, 1), PEN);
    int[][] bad = {{1, 1}, {-1, 1}, {0, 0}, {0, 41}, {0, -1}};
    for (int[] b : bad) due(18, "mark(" + b[0] + ", " + b[1] + ")", x.mark(b[0], b[1]), BEYOND);
  }

  private static int bestMark(CollarNames x, int garment, int n) {
    int was = x.garmentOf(garment, 1);
    int best = 0;
    int most = -1;
    for (int mark = 0; mark < 3; mark++) {
      x.sew(garment, 1, mark);
      int right = 0;
      for (int w = 1; w <= n; w++) if (x.on(garment, w, 1) == x.garmentOf(garment, 0)) right++;
      if (right > most) { most = right; best = mark; }
    }
    x.sew(garment, 1, was);
    return best;
  }

  private static void marksThatFadeAreBest() {
    CollarNames x = people(GUEST, GUEST, GUEST, GUEST);
    x.garment(3, SEWN);
    x.sew(0, 2, 22);
    x.weeks(1);
    x.sew(0, 2, 22);
    x.sew(0, 3, 3);
    due(18, "mark(0, 1): ironed goes by the heap and the table", x.mark(0, 1), IRONED);
    due(18, "mark(0, 40)", x.mark(0, 40), bestMark(x, 0, 40));
    x.sew(0, 2, 29);
    x.heat(55);
    due(18, "mark(0, 1): 9 leave 20, ironed and pen alike too pale for none", x.mark(0, 1), SEWN);
    x.heat(60);
    due(18, "mark(0, 1): ironed leaves 19", x.mark(0, 1), IRONED);
    x.sew(0, 2, 32);
    x.heat(89);
    due(18, "mark(0, 1): pen leaves 18, ironed 20", x.mark(0, 1), PEN);
  }

  private static void kinds() {
    CollarNames x = people(VAGUE, GUEST);
    x.garment(0, SEWN);
    due(19, "kind(0, 1): all alike", x.kind(0, 1), GUEST);
    x.sew(0, 2, 0);
    x.sew(0, 3, -1);
    due(19, "kind(0, 2): a guest wants a name of 1", x.kind(0, 2), MINDER);
    x.garment(1, SEWN);
    x.sew(1, 2, 40);
    x.sew(1, 3, 0);
    due(19, "kind(0, 2): with another's", x.kind(0, 2), MINDER);
    due(19, "of(0, 0)", x.of(0, 0), VAGUE);
    CollarNames y = people(GUEST, MAGPIE);
    y.set(0, 1, 2);
    y.set(0, 3, 0);
    y.garment(0, SEWN);
    y.sew(0, 3, -1);
    due(19, "kind(0, 2)", y.kind(0, 2), GUEST);
    due(19, "kind(1, 2): none of its own", y.kind(1, 2), GUEST);
    int[][] bad = {{2, 1}, {-1, 1}, {0, 0}, {0, 61}, {0, -1}};
    for (int[] b : bad) due(19, "kind(" + b[0] + ", " + b[1] + ")", y.kind(b[0], b[1]), BEYOND);
    due(19, "kind(0, 60)", y.kind(0, 60), bestKind(y, 0, 60));
    for (int n = 1; n <= 60; n += 7) {
      CollarNames w = ward();
      for (int p = 0; p < 6; p++) due(19, "kind(" + p + ", " + n + ")", w.kind(p, n), bestKind(w, p, n));
    }
  }

  private static int bestKind(CollarNames x, int person, int n) {
    int was = x.of(person, 0);
    int best = 0;
    int most = -1;
    for (int kind = 0; kind < 6; kind++) {
      x.turn(person, kind);
      int own = 0;
      for (int g = 0; g < x.count(1); g++) {
        if (x.garmentOf(g, 0) == person && x.on(g, n, 1) == person) own++;
      }
      if (own > most) { most = own; best = kind; }
    }
    x.turn(person, was);
    return best;
  }

  private static void warmest() {
    CollarNames x = people(GUEST, GUEST, GUEST, GUEST);
    x.garment(3, PEN);
    due(20, "warmest(0, 1)", x.warmest(0, 1), 90);
    x.sew(0, 2, 70);
    due(20, "warmest(0, 1): 10 at most", x.warmest(0, 1), 65);
    x.sew(0, 2, 63);
    due(20, "warmest(0, 1): 3 at most, at 23", x.warmest(0, 1), 23);
    x.sew(0, 2, 62);
    due(20, "warmest(0, 1): 2 at most", x.warmest(0, 1), NONE);
    x.sew(0, 2, 63);
    due(20, "warmest(0, 2)", x.warmest(0, 2), NONE);
    x.sew(0, 1, SEWN);
    due(20, "warmest(0, 3)", x.warmest(0, 3), 90);
    due(20, "warmest(0, 4)", x.warmest(0, 4), NONE);
    x.sew(0, 2, 99);
    due(20, "warmest(0, 39)", x.warmest(0, 39), 90);
    due(20, "warmest(0, 40)", x.warmest(0, 40), NONE);
    due(20, "now(1)", x.now(1), 60);
    int[][] bad = {{1, 1}, {-1, 1}, {0, 0}, {0, 41}, {0, -1}};
    for (int[] b : bad) due(20, "warmest(" + b[0] + ", " + b[1] + ")", x.warmest(b[0], b[1]), BEYOND);
  }

  private static void plain() {
    CollarNames x = people(GUEST, GUEST, GUEST, GUEST);
    x.garment(3, SEWN);
    due(21, "plain(0, 1)", x.plain(0, 1), 61);
    due(21, "plain(0, 2): by the heap and the table", x.plain(0, 2), 2);
    due(21, "plain(0, 39)", x.plain(0, 39), 99);
    due(21, "plain(0, 40)", x.plain(0, 40), NONE);
    x.garment(0, SEWN);
    due(21, "plain(1, 1): of the band's first", x.plain(1, 1), 21);
    due(21, "plain(1, 2): back by the table", x.plain(1, 2), 2);
    x.sew(0, 1, PEN);
    x.set(3, 3, 1);
    due(21, "plain(0, 60)", x.plain(0, 60), NONE);
    due(21, "garmentOf(0, 2)", x.garmentOf(0, 2), 99);
    int[][] bad = {{2, 1}, {-1, 1}, {0, 0}, {0, 61}, {0, -1}};
    for (int[] b : bad) due(21, "plain(" + b[0] + ", " + b[1] + ")", x.plain(b[0], b[1]), BEYOND);
    CollarNames w = ward();
    for (int g = 0; g < 10; g++) {
      for (int n = 1; n <= 60; n += 9) due(21, "plain(" + g + ", " + n + ")", w.plain(g, n), leastName(g, n));
    }
  }

  private static long leastName(int garment, int n) {
    CollarNames x = ward();
    for (int name = 0; name <= 99; name++) {
      x.sew(garment, 2, name);
      if (x.on(garment, n, 1) == x.garmentOf(garment, 0)) return name;
    }
    return NONE;
  }

  private static void teach() {
    due(22, "teach(1) of nobody", new CollarNames().teach(1), NONE);
    due(22, "teach(0) of nobody", new CollarNames().teach(0), BEYOND);
    due(22, "teach(61) of nobody", new CollarNames().teach(61), BEYOND);
    CollarNames x = people(GUEST, GUEST, VAGUE, MAGPIE);
    due(22, "teach(1): all alike", x.teach(1), 0);
    x.garment(0, SEWN);
    x.sew(0, 3, 3);
    due(22, "teach(1)", x.teach(1), 3);
    x.garment(0, SEWN);
    x.garment(0, SEWN);
    x.sew(1, 3, 2);
    x.sew(2, 3, 2);
    due(22, "teach(1)", x.teach(1), 2);
    due(22, "teach(60)", x.teach(60), bestTaught(x, 60));
    due(22, "teach(-1)", x.teach(-1), BEYOND);
    due(22, "of(2, 0)", x.of(2, 0), VAGUE);
    x.set(2, 3, 1);
    due(22, "teach(1): the gone one gives back by itself", x.teach(1), 3);
    for (int n = 1; n <= 60; n += 5) due(22, "teach(" + n + ")", ward().teach(n), bestTaught(ward(), n));
    CollarNames y = people(GUEST, GUEST);
    y.set(0, 3, 1);
    due(22, "teach(1): of several the least, gone or not", y.teach(1), 0);
    y.set(0, 2, 5);
    due(23, "best(3): of all people, gone or not", y.best(3), 0);
  }

  private static int bestTaught(CollarNames x, int n) {
    int best = 0;
    int most = -1;
    for (int p = 0; p < x.count(0); p++) {
      int was = x.turn(p, MINDER);
      int right = 0;
      for (int g = 0; g < x.count(1); g++) if (x.on(g, n, 1) == x.garmentOf(g, 0)) right++;
      x.turn(p, was);
      if (right > most) { most = right; best = p; }
    }
    return best;
  }

  private static void best() {
    CollarNames x = people(GUEST, DAUGHTER, GUEST);
    due(23, "best(0): all alike", x.best(0), 0);
    due(23, "best(1)", x.best(1), 1);
    x.set(0, 2, 20);
    due(23, "best(10): alike", x.best(10), 0);
    due(23, "best(11)", x.best(11), 1);
    x.set(0, 2, -1);
    x.set(1, 2, -1);
    x.set(2, 2, -1);
    due(23, "best(0): all below 0", x.best(0), 0);
  }

  private static void feedAndWipe() {
    CollarNames x = new CollarNames();
    due(24, "feed(0, 0)", x.feed(0, 0), BEYOND);
    due(24, "feed(0, 5)", x.feed(0, 5), BEYOND);
    due(24, "feed(0, -1)", x.feed(0, -1), BEYOND);
    for (int i = 1; i <= 29; i++) due(24, "feed(-1, 4)", x.feed(-1, 4), 4 * i);
    due(24, "feed(0, 3)", x.feed(0, 3), 119);
    due(24, "feed(0, 2)", x.feed(0, 2), FULL);
    due(24, "feed(0, 5)", x.feed(0, 5), BEYOND);
    due(24, "feed(0, 1)", x.feed(0, 1), 120);
    due(24, "feed(0, 1)", x.feed(0, 1), FULL);
    due(25, "wipe()", x.wipe(), 120);
    due(25, "wipe()", x.wipe(), 0);
    due(25, "count(2)", x.count(2), 0);
    due(24, "feed(gue)", x.feed(0x58677565, 3), 3);
    due(24, "feed(st;h)", x.feed(0x73743B68, 4), 7);
    due(24, "feed(ea)", x.feed(0xFFFF6561, 2), 9);
    due(24, "feed(t)", x.feed(0xFFFFFF74, 1), 10);
    tape(x, "30");
    due(24, "home()", x.home(), 2);
    due(24, "now(1)", x.now(1), 30);
    due(24, "count(0)", x.count(0), 1);
  }

  private static void home() {
    CollarNames x = new CollarNames();
    tape(x, "  guest;minder band 2 ;vague;deaf band0;daughter;magpie ");
    due(26, "home()", x.home(), 6);
    for (int p = 0; p < 6; p++) due(26, "of(" + p + ", 0)", x.of(p, 0), p);
    same(26, "bands", "" + x.of(0, 1) + x.of(1, 1) + x.of(2, 1) + x.of(3, 1) + x.of(4, 1) + x.of(5, 1), "022012");
    due(26, "count(2)", x.count(2), 0);
    tape(x, "sewn 0;ironed1name 0;pen 5 name99heap;sewn 003 heap;heat 20;dies 5;heat 0090;dies 5");
    due(26, "home()", x.home(), 8);
    same(26, "marks", "" + x.garmentOf(0, 1) + x.garmentOf(1, 1) + x.garmentOf(2, 1) + x.garmentOf(3, 1), "0120");
    same(26, "owners", "" + x.garmentOf(0, 0) + x.garmentOf(1, 0) + x.garmentOf(2, 0) + x.garmentOf(3, 0), "0153");
    same(26, "names", x.garmentOf(0, 2) + " " + x.garmentOf(1, 2) + " " + x.garmentOf(2, 2) + " " + x.garmentOf(3, 2), "99 0 99 99");
    same(26, "with", x.garmentOf(0, 3) + " " + x.garmentOf(1, 3) + " " + x.garmentOf(2, 3) + " " + x.garmentOf(3, 3), "0 1 -1 -1");
    due(26, "now(1)", x.now(1), 90);
    due(26, "now(4)", x.now(4), 31);
    due(26, "of(5, 3)", x.of(5, 3), 1);
    tape(x, "sewn 0;sewn 0;sewn 0;sewn 0;sewn 0;sewn 0;sewn 0");
    String before = "" + x.count(1) + x.now(3);
    due(26, "home(): an 11th", x.home(), -1 - 42);
    same(26, "nothing came", "" + x.count(1) + x.now(3), before);
    tape(x, "sewn 0;sewn 0;sewn 0;sewn 0;sewn 0;sewn 0");
    due(26, "home()", x.home(), 6);
    tape(x, "heat 30;pen");
    due(26, "home(): an 11th, its own place", x.home(), -1 - 8);
    due(26, "now(1)", x.now(1), 90);
    tape(x, "guest");
    due(26, "home(): a 7th", x.home(), -1);
    due(26, "status(-1)", x.status(-1), 0);
  }

  /** A token at the tape's end ends there: at its 120th byte, and before what an earlier text left. */
  private static void homeAtTheEnd() {
    String[] ends = {"guest", "guest band 1", " ", ";", "dies 0"};
    int[] want = {2, 2, 1, -121, 2};
    for (int i = 0; i < ends.length; i++) {
      CollarNames x = new CollarNames();
      StringBuilder text = new StringBuilder(i == 2 || i == 3 ? "guest" : "guest;");
      while (text.length() + ends[i].length() < 120) text.append(' ');
      tape(x, text.append(ends[i]).toString());
      due(26, "count(2)", x.count(2), 120);
      due(26, "home() of 120 bytes with <" + ends[i] + ">", x.home(), want[i]);
    }
    CollarNames y = new CollarNames();
    String[][] pairs = {{"heat 305", "heat 30"}, {"guests", "guest"}, {"heat 30;", "heat 31"}, {"heat 32   X", "heat 32 "}};
    for (String[] pair : pairs) {
      tape(y, pair[0]);
      y.wipe();
      tape(y, pair[1]);
      due(26, "home() of <" + pair[1] + "> after <" + pair[0] + ">", y.home(), 1);
    }
  }

  private static void homeFaults() {
    fault(0, "xuest", 0);
    fault(0, "guestz", 0);
    fault(0, "guesta", 0);
    fault(0, "guest`", 5);
    fault(0, "guest{", 5);
    fault(1, "heat 30/", 7);
    fault(1, "heat 30:", 7);
    fault(1, "heat 309", 5);
    fault(0, "guesx", 0);
    fault(0, "", 0);
    fault(0, "   ", 3);
    fault(0, ";", 0);
    fault(0, "guest;", 6);
    fault(0, "guest; ", 7);
    fault(0, "guest;;guest", 6);
    fault(0, "guest guest", 6);
    fault(0, "guests", 0);
    fault(0, "gues", 0);
    fault(0, "Guest", 0);
    fault(0, "guestX", 5);
    fault(0, "guest\tband 1", 5);
    fault(0, "guest band", 10);
    fault(0, "guest band ", 11);
    fault(0, "guest band 3", 11);
    fault(0, "guest band;", 10);
    fault(0, "guest band 1 band 1", 13);
    fault(0, "guest heap", 6);
    fault(0, "guest 1", 6);
    fault(0, "band 1", 0);
    fault(0, "name 1", 0);
    fault(0, "heap", 0);
    fault(0, "7", 0);
    fault(0, "sewn 0", 5);
    fault(0, "sewn 0;guest", 5);
    fault(0, "guest;sewn 1;guest", 11);
    fault(0, "dies 0", 5);
    fault(1, "dies 1", 5);
    fault(1, "dies", 4);
    fault(1, "dies dies", 5);
    fault(1, "dies 0 0", 7);
    fault(1, "heat", 4);
    fault(1, "heat 19", 5);
    fault(1, "heat 91", 5);
    fault(1, "heat 30 31", 8);
    fault(1, "heat 4294967356", 5);
    fault(1, "heat 18446744073709551676", 5);
    fault(1, "heat 1000", 5);
    fault(1, "heat -30", 5);
    fault(1, "pen", 3);
    fault(1, "pen 0 name", 10);
    fault(1, "pen 0 name 100", 11);
    fault(1, "pen 0 name heap", 11);
    fault(1, "pen 0 heap name 5", 11);
    fault(1, "pen 0 heap heap", 11);
    fault(1, "pen 0 name 5 name 5", 13);
    fault(1, "pen 0 band 1", 6);
    fault(1, "ironed 1", 7);
    fault(1, "heat 30;pen 0;dies 0;guest;" + (char) 233, 27);
    fault(1, "heat 30;pen 0;" + (char) 0, 14);
    fault(5, "guest;guest", 6);
    fault(6, "magpie band 9", 0);
  }

  private static void sheets() {
    CollarNames x = new CollarNames();
    due(27, "sheet(0, 8, 40)", x.sheet(0, 8, 40), 40);
    due(27, "sheet(3, 64, 0)", x.sheet(3, 64, 0), 0);
    int[] bits = {-1, 1, 7, 32, 63, 128, Integer.MIN_VALUE, Integer.MAX_VALUE};
    for (int b : bits) due(27, "sheet(0, " + b + ", -1)", x.sheet(0, b, -1), BEYOND);
    due(27, "sheet(4, 8, -1)", x.sheet(4, 8, -1), BEYOND);
    due(27, "sheet(-1, 8, -1)", x.sheet(-1, 8, -1), BEYOND);
    due(27, "sheet(0, 8, -1)", x.sheet(0, 8, -1), SIZE);
    due(27, "sheet(0, 0, -1)", x.sheet(0, 0, -1), SIZE);
    due(27, "sheet(0, 0, 41)", x.sheet(0, 0, 41), BEYOND);
    due(27, "sheet(0, 16, 41)", x.sheet(0, 16, 41), BEYOND);
    due(27, "write(0, 39, 5)", x.write(0, 39, 5), 0);
    due(27, "sheet(0, 0, 40)", x.sheet(0, 0, 40), 0);
    due(27, "write(0, 0, 0)", x.write(0, 0, 0), MISSING);
    due(27, "sheet(0, 16, 40)", x.sheet(0, 16, 40), 40);
    for (int i = 0; i < 40; i++) due(27, "write(0, " + i + ", 5)", x.write(0, i, 5), 0);
    due(27, "sheet(0, 16, 40)", x.sheet(0, 16, 40), 40);
    for (int i = 0; i < 40; i++) due(27, "write(0, " + i + ", 6): all 0 again", x.write(0, i, 6), 0);
    due(27, "sheet(0, 8, 3)", x.sheet(0, 8, 3), 3);
    due(27, "write(0, 3, 0)", x.write(0, 3, 0), BEYOND);
  }

  private static void write() {
    CollarNames x = new CollarNames();
    x.sheet(0, 8, 2);
    x.sheet(1, 16, 2);
    x.sheet(2, 64, 2);
    long[] puts = {127, 128, 255, 256, -128, -129, 32767, 32768, 65535, 65536, -32769, Long.MAX_VALUE, Long.MIN_VALUE, BEYOND};
    long was8 = 0;
    long was16 = 0;
    long was64 = 0;
    for (long v : puts) {
      due(28, "write(0, 1, " + v + ")", x.write(0, 1, v), was8);
      due(28, "write(1, 1, " + v + ")", x.write(1, 1, v), was16);
      due(28, "write(2, 1, " + v + ")", x.write(2, 1, v), was64);
      was8 = ((v % 256 + 256 + 128) % 256) - 128;
      was16 = ((v % 65536 + 65536 + 32768) % 65536) - 32768;
      was64 = v;
    }
    due(28, "write(2, 1, 0): a number like a finding", x.write(2, 1, 0), BEYOND);
    due(28, "status(-1): isn't one", x.status(-1), 0);
    due(28, "write(2, 0, 0): its neighbour", x.write(2, 0, 0), 0);
    due(28, "write(0, 2, 0)", x.write(0, 2, 0), BEYOND);
    due(28, "write(0, -1, 0)", x.write(0, -1, 0), BEYOND);
    due(28, "write(3, -1, 0)", x.write(3, -1, 0), MISSING);
    due(28, "write(4, 0, 0)", x.write(4, 0, 0), BEYOND);
    due(28, "write(-1, 0, 0)", x.write(-1, 0, 0), BEYOND);
    due(28, "status(0)", x.status(0), 4);
    due(28, "status(5)", x.status(5), 1);
  }

  private static void copy() {
    CollarNames x = new CollarNames();
    x.sheet(0, 16, 5);
    x.sheet(1, 16, 3);
    x.sheet(2, 64, 5);
    for (int i = 0; i < 5; i++) x.write(0, i, i + 1);
    due(29, "copy(0, 0, 0, 1, 4)", x.copy(0, 0, 0, 1, 4), 4);
    same(29, "forwards within", row(x, 0, 5), "1 1 2 3 4 ");
    due(29, "copy(0, 1, 0, 0, 4)", x.copy(0, 1, 0, 0, 4), 4);
    same(29, "backwards within", row(x, 0, 5), "1 2 3 4 4 ");
    due(29, "copy(0, 2, 1, 1, 2)", x.copy(0, 2, 1, 1, 2), 2);
    same(29, "to another", row(x, 1, 3), "0 3 4 ");
    due(29, "copy(0, 5, 1, 3, 0)", x.copy(0, 5, 1, 3, 0), 0);
    int big = Integer.MAX_VALUE;
    int[][] bad = {{0, 0, 1, 0, 4}, {1, 1, 0, 0, 3}, {0, -1, 1, 0, 1}, {0, 0, 1, -1, 1}, {0, 0, 1, 0, -1}, {0, 3, 1, 0, 3},
        {0, 0, 1, 2, 2}, {0, big, 1, 0, 1}, {0, 0, 1, big, 1}, {0, 0, 1, 0, big}, {0, big, 1, big, big}, {0, 6, 1, 0, 0},
        {4, 0, 3, 0, 0}, {3, 0, 4, 0, 0}, {-1, 0, 0, 0, 0}, {0, 0, -1, 0, 0}};
    for (int[] b : bad) {
      due(29, "copy(" + b[0] + ", " + b[1] + ", " + b[2] + ", " + b[3] + ", " + b[4] + ")",
          x.copy(b[0], b[1], b[2], b[3], b[4]), BEYOND);
    }
    due(29, "copy(0, 0, 3, 0, -1)", x.copy(0, 0, 3, 0, -1), MISSING);
    due(29, "copy(3, 0, 2, 0, -1)", x.copy(3, 0, 2, 0, -1), MISSING);
    due(29, "copy(0, 0, 2, 0, -1)", x.copy(0, 0, 2, 0, -1), KIND);
    same(29, "wrong copies", row(x, 0, 5) + row(x, 1, 3), "1 2 3 4 4 0 3 4 ");
  }

  private static String row(CollarNames x, int s, int n) {
    StringBuilder b = new StringBuilder();
    for (int i = 0; i < n; i++) {
      long was = x.write(s, i, 0);
      x.write(s, i, was);
      b.append(was).append(' ');
    }
    return b.toString();
  }

  private static void lays() {
    CollarNames x = people(GUEST);
    x.sheet(0, 64, 6);
    due(30, "lays(0) for none", x.lays(0), 0);
    for (int g = 0; g < 5; g++) x.garment(0, SEWN);
    long[] numbers = {0, 99, 100, -1, 4294967296L + 5, 7};
    for (int i = 0; i < 6; i++) x.write(0, i, numbers[i]);
    due(30, "lays(0)", x.lays(0), 2);
    same(30, "names", x.garmentOf(0, 2) + " " + x.garmentOf(1, 2) + " " + x.garmentOf(2, 2) + " " + x.garmentOf(3, 2) + " "
        + x.garmentOf(4, 2), "0 99 99 99 99");
    x.sheet(1, 8, 1);
    x.write(1, 0, 50);
    due(30, "lays(1)", x.lays(1), 1);
    due(30, "count(3)", x.count(3), 50 + 4 * 99);
    due(30, "lays(2)", x.lays(2), MISSING);
    due(30, "lays(4)", x.lays(4), BEYOND);
    due(30, "lays(-1)", x.lays(-1), BEYOND);
  }

  private static void bookAndRead() {
    CollarNames x = ward();
    int[] widths = {8, 16, 64};
    for (int g = 0; g < 10; g++) {
      x.sheet(1, widths[g % 3], 40 - g);
      String before = seen(x);
      due(31, "book(1, " + g + ")", x.book(1, g), 40 - g);
      same(31, "book(1, " + g + ")", seen(x), before);
      StringBuilder want = new StringBuilder();
      for (int n = 0; n < 40 - g; n++) want.append(x.on(g, n, 1)).append(' ');
      same(31, "book(1, " + g + ")", row(x, 1, 40 - g), want.toString());
      due(32, "read(1, " + g + ")", x.read(1, g), pairs(g, 1, 40 - g, x));
      same(32, "read(1, " + g + ")", seen(x), before);
    }
    x.sheet(0, 64, 0);
    due(31, "book(0, 3) of no numbers", x.book(0, 3), 0);
    due(32, "read(0, 3) of no numbers", x.read(0, 3), 300);
    x.sheet(0, 64, 1);
    x.write(0, 0, 4294967296L + 3);
    due(32, "read(0, 3): no such person", x.read(0, 3), 0);
    x.write(0, 0, 3);
    due(32, "read(0, 3)", x.read(0, 3), 300);
    x.sheet(0, 8, 2);
    x.write(0, 0, 3);
    x.write(0, 1, -1);
    due(32, "read(0, 3): sewn to 20, others to 29", x.read(0, 3), 21 + 30 + 30);
    due(31, "book(2, 99)", x.book(2, 99), MISSING);
    due(31, "book(0, 10)", x.book(0, 10), BEYOND);
    due(31, "book(0, -1)", x.book(0, -1), BEYOND);
    due(31, "book(4, 0)", x.book(4, 0), BEYOND);
    due(31, "book(-1, 0)", x.book(-1, 0), BEYOND);
    due(32, "read(2, 99)", x.read(2, 99), MISSING);
    due(32, "read(0, 10)", x.read(0, 10), BEYOND);
    due(32, "read(0, -1)", x.read(0, -1), BEYOND);
    due(32, "read(4, 0)", x.read(4, 0), BEYOND);
    due(32, "read(-1, 0)", x.read(-1, 0), BEYOND);
  }

  private static int pairs(int garment, int sheet, int length, CollarNames booked) {
    String want = row(booked, sheet, length);
    int pairs = 0;
    for (int mark = 0; mark < 3; mark++) {
      for (int name = 0; name <= 99; name++) {
        CollarNames y = ward();
        y.sew(garment, 1, mark);
        y.sew(garment, 2, name);
        StringBuilder got = new StringBuilder();
        for (int n = 0; n < length; n++) {
          got.append(y.garmentOf(garment, 3)).append(' ');
          y.weeks(1);
        }
        if (got.toString().equals(want)) pairs++;
      }
    }
    return pairs;
  }

  private static void images() {
    CollarNames x = ward();
    x.heat(40);
    x.weeks(3);
    x.set(2, 3, 1);
    x.set(3, 1, 2);
    String before = seen(x);
    due(33, "image()", x.image(), 1);
    x.turn(0, 5);
    x.set(2, 3, 0);
    x.set(3, 1, 1);
    x.set(4, 2, 9);
    x.sew(0, 0, 3);
    x.sew(1, 1, 2);
    x.sew(2, 2, 3);
    x.sew(3, 3, -1);
    x.heat(50);
    x.weeks(1);
    x.sheet(0, 8, 1);
    x.write(0, 0, 77);
    due(34, "undo()", x.undo(), 6);
    same(34, "undo()", seen(x), before);
    due(34, "sheets stay", x.write(0, 0, 0), 77);
    x.weeks(5);
    due(34, "undo() again", x.undo(), 6);
    same(34, "undo() again", seen(x), before);
    tape(x, "heat");
    x.weeks(1);
    String later = seen(x);
    due(33, "image()", x.image(), 1);
    x.wipe();
    x.heat(20);
    tape(x, "ab");
    due(34, "undo(): the latest", x.undo(), 6);
    due(34, "the tape stays", x.count(2), 2);
    x.wipe();
    tape(x, "heat");
    same(34, "undo(): the latest", seen(x), later);
    due(35, "tear()", x.tear(), 1);
    due(35, "tear()", x.tear(), 0);
    due(35, "undo()", x.undo(), NONE);
    same(35, "undo() of nothing", seen(x), later);
    CollarNames y = new CollarNames();
    y.image();
    y.person(0);
    due(34, "undo() to nobody", y.undo(), 0);
    due(34, "count(0)", y.count(0), 0);
  }

  private static void count() {
    CollarNames x = people(GUEST, GUEST);
    x.garment(0, SEWN);
    x.garment(1, PEN);
    x.garment(1, PEN);
    x.sew(2, 2, 1);
    x.feed(0, 3);
    due(36, "count(0)", x.count(0), 2);
    due(36, "count(1)", x.count(1), 3);
    due(36, "count(2)", x.count(2), 3);
    due(36, "count(3)", x.count(3), 199);
    due(36, "count(4)", x.count(4), BEYOND);
    due(36, "count(-1)", x.count(-1), BEYOND);
    for (int w : WILD) due(36, "count(" + w + ")", x.count(w), BEYOND);
  }

  private static void status() {
    CollarNames x = new CollarNames();
    for (int which = -1; which <= 6; which++) due(37, "status(" + which + ")", x.status(which), 0);
    x.image();
    x.heat(0);
    for (int i = 0; i < 7; i++) x.person(VAGUE);
    x.as(0, MINDER);
    x.comes(0, 0);
    x.garment(0, SEWN);
    x.comes(0, 5);
    x.lays(0);
    x.sheet(0, 0, -1);
    due(37, "status(0)", x.status(0), 2);
    due(37, "status(7)", x.status(7), BEYOND);
    due(37, "status(-2)", x.status(-2), BEYOND);
    due(37, "undo()", x.undo(), 0);
    int[] want = {4, 1, 1, 1, 0, 1, 1};
    for (int which = 0; which <= 6; which++) due(37, "status(" + which + ")", x.status(which), want[which]);
    due(37, "status(-1)", x.status(-1), 9);
  }

  public static void main(String[] args) {
    newObject();
    heat();
    now();
    person();
    personAfterUndo();
    of();
    set();
    would();
    wouldWithBoth();
    turnAndAs();
    garment();
    garmentOf();
    sew();
    weeks();
    lastWeek();
    oneWeek();
    table();
    contentHeldBelow();
    ahead();
    aheadBeyond();
    lost();
    comesAtTheEdge();
    marks();
    marksThatFadeAreBest();
    kinds();
    warmest();
    plain();
    teach();
    best();
    feedAndWipe();
    home();
    homeAtTheEnd();
    homeFaults();
    sheets();
    write();
    copy();
    lays();
    bookAndRead();
    images();
    count();
    status();
    System.out.println(asked + " answers asked, " + wrong + " wrong");
    if (wrong != 0) System.exit(1);
  }
}
