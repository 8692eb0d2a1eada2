import java.util.ArrayList;
import java.util.List;
import java.util.Random;
import java.util.regex.Matcher;
import java.util.regex.Pattern;

// Long runs of chance calls, each answer against that of a second program, written apart from the class:
// objects for people and garments, copies of the whole for each look ahead, and thrown findings.
public final class OracleTest {
  private static final int RUNS = 150;
  private static final int CALLS = 512;

  private static final class Finding extends RuntimeException {
    private static final long serialVersionUID = 1;
    final int which;

    Finding(int which) {
      super(null, null, false, false);
      this.which = which;
    }
  }

  private static final class Fault extends RuntimeException {
    private static final long serialVersionUID = 1;
    final int place;

    Fault(int place) {
      super(null, null, false, false);
      this.place = place;
    }
  }

  private static void ask(boolean holds, int which) {
    if (!holds) throw new Finding(which);
  }

  private enum Kind {
    GUEST(null), MINDER(GUEST), VAGUE(GUEST), DEAF(GUEST), DAUGHTER(MINDER), MAGPIE(VAGUE);

    final Kind above;

    Kind(Kind above) {
      this.above = above;
    }

    boolean is(Kind other) {
      return this == other || above != null && above.is(other);
    }

    boolean givesBack(int n) {
      if (this == MINDER) return true;
      if (this == VAGUE) return false;
      if (this == DEAF) return n >= 80;
      return this == GUEST ? n >= 60 : above.givesBack(n);
    }

    boolean claims(boolean own, int n, int w) {
      if (this == GUEST) return own && n >= 1;
      if (this == MINDER) return own;
      if (this == VAGUE) return w == 0;
      return above.claims(own, n, w) || this == MAGPIE && n >= 50;
    }

    int minds(int a, int b) {
      if (this == GUEST) return a - b;
      if (this == MINDER) return a * 2 - b * 3;
      if (this == VAGUE) return a + b;
      int more = this == DEAF ? 1 : this == MAGPIE ? b : b == 0 ? 2 : 0;
      return above.minds(a, b) + more;
    }
  }

  private static final class Person {
    Kind kind;
    int number, band, content;
    boolean gone;
  }

  private static final class Garment {
    Person owner, with;
    int mark, name;
  }

  private static final class House {
    int week = 0, heat = 60;
    final List<Person> people = new ArrayList<>();
    final List<Garment> garments = new ArrayList<>();

    House twin() {
      House t = new House();
      t.week = week;
      t.heat = heat;
      for (Person p : people) {
        Person q = t.more(p.kind);
        q.band = p.band;
        q.content = p.content;
        q.gone = p.gone;
      }
      for (Garment g : garments) {
        Garment h = t.more(t.people.get(g.owner.number), g.mark);
        h.name = g.name;
        h.with = g.with == null ? null : t.people.get(g.with.number);
      }
      return t;
    }

    Person more(Kind kind) {
      Person p = new Person();
      p.kind = kind;
      p.number = people.size();
      p.band = p.number % 3;
      people.add(p);
      return p;
    }

    Garment more(Person owner, int mark) {
      Garment g = new Garment();
      g.owner = owner;
      g.with = owner;
      g.mark = mark;
      g.name = 99;
      garments.add(g);
      return g;
    }

    int fades(Garment g) {
      return g.mark == 0 ? 1 : g.mark == 2 ? heat / 6 : heat <= 50 ? 9 : 9 + (heat - 50) / 10;
    }

    Person reads(Garment g) {
      if (g.name < 20) return null;
      if (g.name >= 60 && !g.owner.gone) return g.owner;
      return people.stream().filter(p -> !p.gone && p.band == g.owner.band).findFirst().orElse(null);
    }

    int has(Person p, boolean own) {
      return (int) garments.stream().filter(g -> g.with == p && (g.owner == p) == own).count();
    }

    boolean claims(Person p, Garment g) {
      return p.kind.claims(g.owner == p, g.name, has(p, true) + has(p, false));
    }

    int minds(Person p) {
      return p.kind.minds(has(p, true), has(p, false));
    }

    void go(int weeks) {
      for (int n = weeks; n > 0; n--) {
        for (Garment g : garments) {
          if (g.with == null) continue;
          g.name = Math.max(g.name - fades(g), 0);
          if (g.with == g.owner || g.with.gone || g.with.kind.givesBack(g.name)) g.with = reads(g);
        }
        if (week % 2 != 0) {
          for (Garment g : garments) {
            if (g.with == null) g.with = people.stream().filter(p -> !p.gone && claims(p, g)).findFirst().orElse(null);
          }
        }
        for (Person p : people) {
          if (!p.gone) p.content = Math.min(999, Math.max(-999, p.content + minds(p)));
        }
        week++;
      }
    }

    House ahead(int weeks) {
      House t = twin();
      t.go(weeks);
      return t;
    }

    boolean right(int g) {
      return garments.get(g).with == garments.get(g).owner;
    }

    int rightSet() {
      int set = 0;
      for (int g = 0; g < garments.size(); g++) if (right(g)) set += 1 << g;
      return set;
    }

    int withSet(Person p) {
      int set = 0;
      for (int g = 0; g < garments.size(); g++) if (garments.get(g).with == p) set += 1 << g;
      return set;
    }

    static int number(Person p) {
      return p == null ? -1 : p.number;
    }

    int withOf(int g) {
      return number(garments.get(g).with);
    }
  }

  /** Reads a text by patterns at a place, each token as long as can be. */
  private static final class Reader {
    private static final Pattern TOKEN = Pattern.compile(" *(?:([a-z]+)|([0-9]+)|(;)|($)|([^ ]))", Pattern.DOTALL);
    final String text;
    final House house;
    final Matcher m;
    int place;

    Reader(String text, House house) {
      this.text = text;
      this.house = house;
      m = TOKEN.matcher(text);
      next();
    }

    void next() {
      m.lookingAt();
      for (int group = 1; group <= 5; group++) if (m.start(group) >= 0) place = m.start(group);
    }

    void eat() {
      m.region(m.end(), text.length());
      next();
    }

    boolean eats(String word) {
      if (!word.equals(m.group(1))) return false;
      eat();
      return true;
    }

    int number(int least, int most) {
      if (m.group(2) == null) throw new Fault(place);
      java.math.BigInteger v = new java.math.BigInteger(m.group(2));
      if (v.bitLength() > 20 || v.intValue() < least || v.intValue() > most) throw new Fault(place);
      eat();
      return v.intValue();
    }

    Person somebody() {
      return house.people.get(number(0, house.people.size() - 1));
    }

    int items() {
      int items = 0;
      while (true) {
        item();
        items++;
        if (m.group(4) != null) return items;
        if (m.group(3) == null) throw new Fault(place);
        eat();
      }
    }

    void item() {
      int at = place;
      for (Kind kind : Kind.values()) {
        if (eats(kind.name().toLowerCase())) {
          if (house.people.size() == 6) throw new Fault(at);
          Person p = house.more(kind);
          if (eats("band")) p.band = number(0, 2);
          return;
        }
      }
      String[] marks = {"sewn", "ironed", "pen"};
      for (int mark = 0; mark < 3; mark++) {
        if (eats(marks[mark])) {
          if (house.garments.size() == 10) throw new Fault(at);
          Garment g = house.more(somebody(), mark);
          if (eats("name")) g.name = number(0, 99);
          if (eats("heap")) g.with = null;
          return;
        }
      }
      if (eats("heat")) house.heat = number(20, 90);
      else if (eats("dies")) somebody().gone = true;
      else throw new Fault(at);
    }
  }

  private static final class Oracle {
    House house = new House();
    House kept = null;
    String tape = "";
    final long[][] sheets = new long[4][];
    final int[] bits = new int[4];
    final int[] found = new int[7];

    long answer(String call, long[] a) {
      try {
        return act(call, a);
      } catch (Finding f) {
        found[f.which]++;
        return -1000000001L - f.which;
      }
    }

    static void in(long v, long least, long most) {
      ask(v >= least && v <= most, 0);
    }

    Person p(long n) {
      in(n, 0, house.people.size() - 1);
      return house.people.get((int) n);
    }

    Garment g(long n) {
      in(n, 0, house.garments.size() - 1);
      return house.garments.get((int) n);
    }

    long[] sheet(long s) {
      in(s, 0, 3);
      ask(sheets[(int) s] != null, 5);
      return sheets[(int) s];
    }

    Kind kindOf(long k) {
      in(k, 0, 5);
      return Kind.values()[(int) k];
    }

    long act(String call, long[] a) {
      switch (call) {
        case "heat": { in(a[0], 20, 90); int was = house.heat; house.heat = (int) a[0]; return was; }
        case "now": return now(a[0]);
        case "person": { Kind k = kindOf(a[0]); ask(house.people.size() < 6, 1); return house.more(k).number; }
        case "of": return of(p(a[0]), a[1]);
        case "set": return set(p(a[0]), a[1], (int) a[2]);
        case "would": {
          Person p = p(a[0]);
          Garment g = g(a[1]);
          in(a[2], 0, 1);
          return (a[2] == 0 ? p.kind.givesBack(g.name) : house.claims(p, g)) ? 1 : 0;
        }
        case "turn": { Person p = p(a[0]); Kind k = kindOf(a[1]); int was = p.kind.ordinal(); p.kind = k; return was; }
        case "as": { Person p = p(a[0]); ask(p.kind.is(kindOf(a[1])), 2); return 1000 + p.content; }
        case "garment": {
          Person p = p(a[0]);
          in(a[1], 0, 2);
          ask(house.garments.size() < 10, 1);
          house.more(p, (int) a[1]);
          return house.garments.size() - 1;
        }
        case "garmentOf": return garmentOf(g(a[0]), a[1]);
        case "sew": return sew(g(a[0]), a[1], (int) a[2]);
        case "weeks": {
          in(a[0], 1, 60);
          ask(house.week + a[0] <= 99999, 4);
          house.go((int) a[0]);
          return house.rightSet();
        }
        default: return look(call, a);
      }
    }

    long now(long what) {
      in(what, 0, 5);
      if (what == 0) return house.week;
      if (what == 1) return house.heat;
      if (what == 2) return house.withSet(null);
      if (what == 3) return house.rightSet();
      if (what == 4) return house.people.stream().filter(p -> !p.gone).mapToInt(p -> 1 << p.number).sum();
      return 10000 + house.people.stream().mapToInt(p -> p.content).sum();
    }

    long of(Person p, long what) {
      in(what, 0, 5);
      int[] all = {p.kind.ordinal(), p.band, 1000 + p.content, p.gone ? 1 : 0, house.withSet(p), 1000 + house.minds(p)};
      return all[(int) what];
    }

    long set(Person p, long what, int v) {
      in(what, 1, 3);
      long was;
      if (what == 1) { in(v, 0, 2); was = p.band; p.band = v; }
      else if (what == 2) { in(v, -999, 999); was = p.content; p.content = v; }
      else { in(v, 0, 1); was = p.gone ? 1 : 0; p.gone = v == 1; }
      return was;
    }

    long garmentOf(Garment g, long what) {
      in(what, 0, 5);
      int[] all = {g.owner.number, g.mark, g.name, House.number(g.with), House.number(house.reads(g)), house.fades(g)};
      return all[(int) what];
    }

    long sew(Garment g, long what, int v) {
      in(what, 0, 3);
      long was = garmentOf(g, what);
      if (what == 0) g.owner = p(v);
      else if (what == 1) { in(v, 0, 2); g.mark = v; }
      else if (what == 2) { in(v, 0, 99); g.name = v; }
      else g.with = v == -1 ? null : p(v);
      return was;
    }

    long look(String call, long[] a) {
      int g = (int) a[0];
      int n = (int) a[1];
      switch (call) {
        case "on": {
          g(g);
          in(n, 0, 100);
          in(a[2], 0, 1);
          House t = house.ahead(n);
          return a[2] == 0 ? t.garments.get(g).name : t.withOf(g);
        }
        case "then": p(a[0]); in(n, 0, 100); return 1000 + house.ahead(n).people.get((int) a[0]).content;
        case "lost": g(g); return first(t -> !t.right(g));
        case "comes": g(g); p(n); return first(t -> t.withOf(g) == n);
        case "mark": {
          g(g);
          in(n, 1, 40);
          return most(3, m -> {
            House t = house.twin();
            t.garments.get(g).mark = m;
            int right = 0;
            for (int i = 0; i < n; i++) { t.go(1); if (t.right(g)) right++; }
            return right;
          });
        }
        case "kind": {
          p(a[0]);
          in(n, 1, 60);
          return most(6, k -> {
            House t = house.twin();
            Person p = t.people.get((int) a[0]);
            p.kind = Kind.values()[k];
            t.go(n);
            return t.has(p, true);
          });
        }
        case "warmest": {
          g(g);
          in(n, 1, 40);
          for (int h = 90; h >= 20; h--) { House t = house.twin(); t.heat = h; t.go(n); if (t.right(g)) return h; }
          throw new Finding(3);
        }
        case "plain": {
          g(g);
          in(n, 1, 60);
          for (int m = 0; m < 100; m++) { House t = house.twin(); t.garments.get(g).name = m; t.go(n); if (t.right(g)) return m; }
          throw new Finding(3);
        }
        case "teach": {
          in(a[0], 1, 60);
          ask(!house.people.isEmpty(), 3);
          return most(house.people.size(), p -> {
            House t = house.twin();
            t.people.get(p).kind = Kind.MINDER;
            t.go((int) a[0]);
            return Integer.bitCount(t.rightSet());
          });
        }
        case "best": {
          in(a[0], 0, 100);
          ask(!house.people.isEmpty(), 3);
          House t = house.ahead((int) a[0]);
          return most(house.people.size(), p -> t.people.get(p).content);
        }
        default: return keep(call, a);
      }
    }

    interface Test { boolean of(House t); }

    interface Worth { int of(int choice); }

    long first(Test test) {
      House t = house.twin();
      for (int n = 0; n <= 100; n++) { if (test.of(t)) return n; t.go(1); }
      throw new Finding(3);
    }

    static long most(int choices, Worth worth) {
      int best = 0;
      int most = Integer.MIN_VALUE;
      for (int c = 0; c < choices; c++) { int w = worth.of(c); if (w > most) { most = w; best = c; } }
      return best;
    }

    long keep(String call, long[] a) {
      switch (call) {
        case "feed": {
          in(a[1], 1, 4);
          ask(tape.length() + a[1] <= 120, 1);
          String eight = String.format("%08x", (int) a[0]);
          for (int i = 4 - (int) a[1]; i < 4; i++) tape += (char) Integer.parseInt(eight.substring(2 * i, 2 * i + 2), 16);
          return tape.length();
        }
        case "wipe": { int was = tape.length(); tape = ""; return was; }
        case "home": {
          String text = tape;
          tape = "";
          House t = house.twin();
          try {
            int items = new Reader(text, t).items();
            house = t;
            return items;
          } catch (Fault f) {
            return -1 - f.place;
          }
        }
        case "image": kept = house.twin(); return 1;
        case "undo": ask(kept != null, 3); house = kept.twin(); return house.people.size();
        case "tear": { int was = kept == null ? 0 : 1; kept = null; return was; }
        case "count": {
          in(a[0], 0, 3);
          int names = house.garments.stream().mapToInt(g -> g.name).sum();
          int[] all = {house.people.size(), house.garments.size(), tape.length(), names};
          return all[(int) a[0]];
        }
        case "status": {
          in(a[0], -1, 6);
          if (a[0] >= 0) return found[(int) a[0]];
          int all = 0;
          for (int f : found) all += f;
          return all;
        }
        default: return onSheet(call, a);
      }
    }

    long cut(int s, long v) {
      return v << (64 - bits[s]) >> (64 - bits[s]);
    }

    long onSheet(String call, long[] a) {
      int s = (int) a[0];
      switch (call) {
        case "sheet": {
          in(s, 0, 3);
          ask(a[1] == 0 || a[1] == 8 || a[1] == 16 || a[1] == 64, 0);
          ask(a[2] >= 0, 6);
          ask(a[2] <= 40, 0);
          bits[s] = (int) a[1];
          sheets[s] = a[1] == 0 ? null : new long[(int) a[2]];
          return a[1] == 0 ? 0 : a[2];
        }
        case "write": {
          long[] row = sheet(s);
          in(a[1], 0, row.length - 1);
          long was = row[(int) a[1]];
          row[(int) a[1]] = cut(s, a[2]);
          return was;
        }
        case "copy": {
          in(a[0], 0, 3);
          in(a[2], 0, 3);
          long[] from = sheet(a[0]).clone();
          long[] to = sheet(a[2]);
          ask(bits[(int) a[0]] == bits[(int) a[2]], 2);
          ask(a[1] >= 0 && a[3] >= 0 && a[4] >= 0 && a[1] + a[4] <= from.length && a[3] + a[4] <= to.length, 0);
          for (int i = 0; i < a[4]; i++) to[(int) a[3] + i] = from[(int) a[1] + i];
          return a[4];
        }
        case "lays": {
          long[] row = sheet(s);
          int came = 0;
          for (int i = 0; i < Math.min(row.length, house.garments.size()); i++) {
            if (row[i] >= 0 && row[i] < 100) { house.garments.get(i).name = (int) row[i]; came++; }
          }
          return came;
        }
        case "book": {
          long[] row = sheet(s);
          g(a[1]);
          for (int i = 0; i < row.length; i++) row[i] = cut(s, house.ahead(i).withOf((int) a[1]));
          return row.length;
        }
        case "read": return readPairs(sheet(s), (int) a[1]);
        default: throw new IllegalStateException(call);
      }
    }

    long readPairs(long[] row, int garment) {
      g(garment);
      int pairs = 0;
      for (int pair = 0; pair < 300; pair++) {
        House t = house.twin();
        t.garments.get(garment).mark = pair / 100;
        t.garments.get(garment).name = pair % 100;
        int i = 0;
        while (i < row.length && t.withOf(garment) == row[i]) { t.go(1); i++; }
        if (i == row.length) pairs++;
      }
      return pairs;
    }
  }

  private static long ask(CollarNames x, String call, long[] a) {
    int i = (int) a[0];
    int j = (int) a[1];
    int k = (int) a[2];
    switch (call) {
      case "heat": return x.heat(i);
      case "now": return x.now(i);
      case "person": return x.person(i);
      case "of": return x.of(i, j);
      case "set": return x.set(i, j, k);
      case "would": return x.would(i, j, k);
      case "turn": return x.turn(i, j);
      case "as": return x.as(i, j);
      case "garment": return x.garment(i, j);
      case "garmentOf": return x.garmentOf(i, j);
      case "sew": return x.sew(i, j, k);
      case "weeks": return x.weeks(i);
      case "on": return x.on(i, j, k);
      case "then": return x.then(i, j);
      case "lost": return x.lost(i);
      case "comes": return x.comes(i, j);
      case "mark": return x.mark(i, j);
      case "kind": return x.kind(i, j);
      case "warmest": return x.warmest(i, j);
      case "plain": return x.plain(i, j);
      case "teach": return x.teach(i);
      case "best": return x.best(i);
      case "feed": return x.feed(i, j);
      case "wipe": return x.wipe();
      case "home": return x.home();
      case "sheet": return x.sheet(i, j, k);
      case "write": return x.write(i, j, a[2]);
      case "copy": return x.copy(i, j, k, (int) a[3], (int) a[4]);
      case "lays": return x.lays(i);
      case "book": return x.book(i, j);
      case "read": return x.read(i, j);
      case "image": return x.image();
      case "undo": return x.undo();
      case "tear": return x.tear();
      case "count": return x.count(i);
      case "status": return x.status(i);
      default: throw new IllegalStateException(call);
    }
  }

  // A call and what its arguments are: p person, g garment, k kind, m mark, s sheet, b bits, d and D a digit to 3 or 6,
  // h heat, n N and w weeks, v a number of a sheet, r a place in one, x anything that may be set, - none.
  private static final String[] CALLS_KNOWN = {
      "heat h", "now D", "person k", "of pD", "set pdx", "would pgf", "turn pk", "as pk", "garment pm", "garmentOf gD", "sew gdx",
      "sew gdx", "sew gdx", "set pdx", "weeks w", "weeks w", "on gNf", "then pN", "lost g", "comes gp", "mark gw", "kind pn",
      "warmest gw", "plain gn", "teach n", "best N", "feed xc", "wipe -", "home -", "sheet sbr", "write srv", "write srv",
      "copy srsrr", "lays s", "book sg", "read sg", "image -", "undo -", "tear -", "count d", "status t", "TEXT -", "TEXT -"};
  private static final String[] WORDS = {
      "guest", "minder", "vague", "deaf", "daughter", "magpie", "sewn", "ironed", "pen", "heat", "dies", "band", "name", "heap",
      "0", "1", "2", "5", "20", "90", "99", "100", "00", "1000", "99999999999", ";", ";", ";", "guests", "X", "\t", "\u00e9"};

  private static long pick(Random r, char type) {
    if (r.nextInt(40) == 0) {
      long[] wild = {-1, -2, 6, 7, 10, 41, 61, 101, Integer.MIN_VALUE, Integer.MAX_VALUE, r.nextInt()};
      return wild[r.nextInt(wild.length)];
    }
    switch (type) {
      case 'p': return r.nextInt(6);
      case 'g': return r.nextInt(10);
      case 'k': return r.nextInt(6);
      case 'm': return r.nextInt(3);
      case 's': return r.nextInt(4);
      case 'b': return new int[] {0, 8, 8, 8, 16, 16, 64, 64}[r.nextInt(8)];
      case 'd': return r.nextInt(4);
      case 'D': return r.nextInt(6);
      case 'f': return r.nextInt(2);
      case 'h': return 20 + r.nextInt(71);
      case 'n': return 1 + r.nextInt(60);
      case 'N': return r.nextInt(101);
      case 'w': return 1 + r.nextInt(r.nextBoolean() ? 3 : 40);
      case 'r': return r.nextInt(r.nextBoolean() ? 4 : 41);
      case 'v': return r.nextInt(3) == 0 ? r.nextLong() : r.nextInt(130) - 10;
      case 'c': return 1 + r.nextInt(4);
      case 't': return r.nextInt(8) - 1;
      default: return r.nextInt(3) == 0 ? r.nextInt(2) : r.nextInt(3) == 0 ? r.nextInt(8) - 1 : r.nextInt(100);
    }
  }

  private static String item(Random r) {
    int n = r.nextInt(12);
    String gap = r.nextInt(4) == 0 ? "  " : " ";
    if (n < 4) return WORDS[r.nextInt(6)] + (r.nextBoolean() ? gap + "band" + gap + r.nextInt(3) : "");
    if (n < 9) {
      return WORDS[6 + r.nextInt(3)] + gap + r.nextInt(5) + (r.nextBoolean() ? " name" + r.nextInt(100) : "")
          + (r.nextBoolean() ? gap + "heap" : "");
    }
    if (n < 11) return "heat " + (20 + r.nextInt(71));
    return "dies " + r.nextInt(6);
  }

  private static String text(Random r) {
    StringBuilder b = new StringBuilder();
    int parts = 1 + r.nextInt(4);
    for (int i = 0; i < parts; i++) b.append(i > 0 ? r.nextBoolean() ? ";" : " ; " : "").append(item(r));
    while (r.nextInt(3) == 0) {
      int at = r.nextInt(b.length() + 1);
      if (r.nextBoolean()) b.insert(at, " " + WORDS[r.nextInt(WORDS.length)]);
      else b.setLength(at);
    }
    return b.toString();
  }

  private static final class Run {
    final CollarNames x = new CollarNames();
    final Oracle y = new Oracle();
    final StringBuilder told = new StringBuilder();
    int calls = 0;

    boolean goesOn(String call, long[] a) {
      if (calls == CALLS) return true;
      calls++;
      long got = ask(x, call, a);
      long want = y.answer(call, a);
      told.append(call).append(java.util.Arrays.toString(a)).append(" = ").append(got).append('\n');
      if (got != want) told.append("due is ").append(want).append('\n');
      return got == want;
    }
  }

  private static boolean chance(Random r, Run run) {
    String[] known = CALLS_KNOWN[r.nextInt(CALLS_KNOWN.length)].split(" ");
    if (known[0].equals("TEXT")) {
      if (r.nextInt(4) > 0 && !run.goesOn("wipe", new long[5])) return false;
      String text = text(r);
      for (int i = 0; i < text.length(); i += 4) {
        int n = Math.min(4, text.length() - i);
        int bytes = 0;
        for (int c = 0; c < n; c++) bytes = bytes << 8 | text.charAt(i + c);
        if (!run.goesOn("feed", new long[] {bytes, n, 0, 0, 0})) return false;
      }
      return run.goesOn("home", new long[5]);
    }
    long[] a = new long[5];
    if (!known[1].equals("-")) {
      for (int i = 0; i < known[1].length(); i++) a[i] = pick(r, known[1].charAt(i));
    }
    if (known[0].equals("read") && r.nextBoolean() && !run.goesOn("book", a)) return false;
    return run.goesOn(known[0], a);
  }

  private static boolean ends(int seed) {
    Random r = new Random(seed);
    Run run = new Run();
    boolean good = true;
    for (int i = r.nextInt(7); good && i > 0; i--) good = run.goesOn("person", new long[] {r.nextInt(6), 0, 0, 0, 0});
    for (int i = r.nextInt(11); good && i > 0; i--) good = run.goesOn("garment", new long[] {r.nextInt(6), r.nextInt(3), 0, 0, 0});
    while (good && run.calls < CALLS) good = chance(r, run);
    if (!good) System.out.println("run " + seed + ":\n" + run.told);
    return good;
  }

  public static void main(String[] args) {
    for (int seed = 0; seed < RUNS; seed++) {
      if (!ends(seed)) System.exit(1);
    }
    System.out.println(RUNS + " runs of " + CALLS + " calls are as due");
  }
}
