import java.util.ArrayList;
import java.util.List;
import java.util.Set;
import java.util.regex.Matcher;
import java.util.regex.Pattern;

/**
 * What the tests of the edges share: runs of calls on a new object, told as texts.
 *
 * A run's rows stand on lines or between bars: "heat(20) = 60 | heat(19) = BEYOND". A row without an answer may answer
 * anything but a finding. "6 x person(0)" is six rows. tape "guest; " feeds these bytes. MIN, MAX, LMIN and LMAX are the
 * smallest and largest int and long. A finding is told by its name; one told as a number is no finding (a sheet may hold it).
 *
 * Each row that is refused, and each that only looks, is made once more on an object that has had the same calls: all
 * that can be asked of it is compared with a twin that hasn't had that row. Only status() may differ, by that one finding.
 */
final class Told {
  private static final List<String> FINDINGS = List.of("BEYOND", "FULL", "KIND", "NONE", "STATE", "MISSING", "SIZE");
  private static final long FIRST_FINDING = -1000000001L;
  private static final Set<String> LOOKS = Set.of("now", "of", "would", "as", "garmentOf", "on", "then", "lost", "comes", "mark",
      "kind", "warmest", "plain", "teach", "best", "read", "count", "status");
  private static final Pattern CALL = Pattern.compile("([a-zA-Z]+)\\((.*)\\)(?: = (\\S+))?");
  private static final Pattern TIMES = Pattern.compile("(\\d+) x (.*)");
  private static final Pattern TAPE = Pattern.compile("tape \"(.*)\"", Pattern.DOTALL);
  /** What the document promises of one object. */
  private static final int PROMISED_CALLS = 512;

  /** A home in which nothing is as at first: a week has gone, another state is kept, three sheets and the tape are in use. */
  static final String WARD = """
      person(0) | person(1) | person(2) | person(3) | person(4) | person(5)
      garment(0, 0) | garment(1, 1) | garment(2, 2) | garment(3, 0) | garment(4, 1)
      garment(5, 2) | garment(0, 0) | garment(1, 1) | garment(2, 2) | garment(3, 0)
      set(1, 2, -7) | set(2, 2, 12) | set(4, 1, 2) | heat(55)
      sew(7, 3, -1) | sew(8, 3, 4) | sew(9, 2, 65)
      image()
      weeks(1) | turn(3, 0) | set(5, 3, 1) | sew(5, 2, 31) | sew(0, 3, 2) | heat(72)
      sheet(0, 8, 3) | write(0, 0, 1) | write(0, 1, -2) | write(0, 2, 3)
      sheet(1, 16, 2) | write(1, 1, -500) | sheet(2, 64, 1) | write(2, 0, LMIN)
      tape "heat 4"
      """;

  private int asked = 0;
  private int wrong = 0;
  private boolean mayBeLong = false;

  private static final class Row {
    String name;
    long[] arguments;
    String text;
    /** Null if any answer is due that is no finding. */
    String answer;

    boolean isRefused() {
      return answer != null && FINDINGS.contains(answer);
    }

    boolean changesNothing() {
      return isRefused() || LOOKS.contains(name);
    }
  }

  /** An object with how many calls it has had. */
  private static final class Subject {
    final CollarNames x = new CollarNames();
    int calls = 0;

    long ask(String name, long... a) {
      calls++;
      int i = a.length > 0 ? (int) a[0] : 0;
      int j = a.length > 1 ? (int) a[1] : 0;
      int k = a.length > 2 ? (int) a[2] : 0;
      switch (name) {
        case "heat": return x.heat(i);
        case "now": return x.now(i);
        case "person": return x.person(i);
        case "of": return x.of(i, j);
        case "set": return x.set(i, j, k);
        case "would": return x.would(i, j, k);
        case "turn": return x.turn(i, j);
        case "as": return x.as(i, j);
        case "garment": return x.garment(i, j);
        case "garmentOf": return x.garmentOf(i, j);
        case "sew": return x.sew(i, j, k);
        case "weeks": return x.weeks(i);
        case "on": return x.on(i, j, k);
        case "then": return x.then(i, j);
        case "lost": return x.lost(i);
        case "comes": return x.comes(i, j);
        case "mark": return x.mark(i, j);
        case "kind": return x.kind(i, j);
        case "warmest": return x.warmest(i, j);
        case "plain": return x.plain(i, j);
        case "teach": return x.teach(i);
        case "best": return x.best(i);
        case "feed": return x.feed(i, j);
        case "wipe": return x.wipe();
        case "home": return x.home();
        case "sheet": return x.sheet(i, j, k);
        case "write": return x.write(i, j, a[2]);
        case "copy": return x.copy(i, j, k, (int) a[3], (int) a[4]);
        case "lays": return x.lays(i);
        case "book": return x.book(i, j);
        case "read": return x.read(i, j);
        case "image": return x.image();
        case "undo": return x.undo();
        case "tear": return x.tear();
        case "count": return x.count(i);
        case "status": return x.status(i);
        default: throw new IllegalArgumentException(name);
      }
    }

    long ask(Row row) {
      return ask(row.name, row.arguments);
    }
  }

  private static long number(String told) {
    switch (told) {
      case "MIN": return Integer.MIN_VALUE;
      case "MAX": return Integer.MAX_VALUE;
      case "LMIN": return Long.MIN_VALUE;
      case "LMAX": return Long.MAX_VALUE;
      default: return FINDINGS.contains(told) ? FIRST_FINDING - FINDINGS.indexOf(told) : Long.parseLong(told);
    }
  }

  private static void addTape(List<Row> rows, String text) {
    for (int at = 0; at < text.length(); at += 4) {
      int n = Math.min(4, text.length() - at);
      long bytes = 0;
      for (int i = 0; i < n; i++) bytes = bytes << 8 | text.charAt(at + i);
      addRow(rows, "feed(" + (int) bytes + ", " + n + ")");
    }
  }

  private static void addRow(List<Row> rows, String told) {
    Matcher times = TIMES.matcher(told);
    if (times.matches()) {
      for (int i = Integer.parseInt(times.group(1)); i > 0; i--) addRow(rows, times.group(2));
      return;
    }
    Matcher tape = TAPE.matcher(told);
    if (tape.matches()) {
      addTape(rows, tape.group(1));
      return;
    }
    Matcher call = CALL.matcher(told);
    if (!call.matches()) throw new IllegalArgumentException("no row: " + told);
    Row row = new Row();
    row.text = told;
    row.name = call.group(1);
    row.answer = call.group(3);
    String[] arguments = call.group(2).isEmpty() ? new String[0] : call.group(2).split(", *");
    row.arguments = new long[arguments.length];
    for (int i = 0; i < arguments.length; i++) row.arguments[i] = number(arguments[i]);
    rows.add(row);
  }

  private static List<Row> rows(String told) {
    List<Row> rows = new ArrayList<>();
    for (String line : told.split("[\n|]")) {
      if (!line.isBlank()) addRow(rows, line.strip());
    }
    return rows;
  }

  private static Subject after(List<Row> rows, int howMany) {
    Subject x = new Subject();
    for (int i = 0; i < howMany; i++) x.ask(rows.get(i));
    return x;
  }

  private static long[] statuses(Subject x) {
    long[] all = new long[FINDINGS.size() + 1];
    for (int which = -1; which < FINDINGS.size(); which++) all[which + 1] = x.ask("status", which);
    return all;
  }

  private static void tellHome(Subject x, StringBuilder b) {
    for (int what = 0; what <= 5; what++) b.append(x.ask("now", what)).append(' ');
    long people = x.ask("count", 0);
    long garments = x.ask("count", 1);
    for (int p = 0; p < people; p++) {
      b.append("| ");
      for (int what = 0; what <= 3; what++) b.append(x.ask("of", p, what)).append(' ');
    }
    for (int g = 0; g < garments; g++) {
      b.append("/ ");
      for (int what = 0; what <= 3; what++) b.append(x.ask("garmentOf", g, what)).append(' ');
    }
  }

  private static void tellSheet(Subject x, int s, StringBuilder b) {
    b.append("\n sheet ").append(s).append(": ");
    long sign = 0x0123456789abcdefL;
    long findings = x.ask("status", -1);
    for (int i = 0; i <= 40 && x.ask("status", -1) == findings; i++) b.append(x.ask("write", s, i, sign)).append(' ');
    b.append("wide ").append(x.ask("write", s, 0, 0));
  }

  /** Spends the object: the tape is told by what it is the text of, and what is kept by becoming it. */
  private static String tellAll(Subject x) {
    StringBuilder b = new StringBuilder();
    tellHome(x, b);
    for (int s = 0; s < 4; s++) tellSheet(x, s, b);
    b.append("\n tape of ").append(x.ask("count", 2));
    b.append(" is ").append(x.ask("home")).append(": ");
    tellHome(x, b);
    b.append("\n kept ").append(x.ask("undo")).append(": ");
    tellHome(x, b);
    return b.toString();
  }

  private void must(boolean holds, String sentence, String what) {
    asked++;
    if (!holds) {
      wrong++;
      System.out.println("\"" + sentence + "\": " + what);
    }
  }

  private void mustChangeNothing(String sentence, List<Row> rows, int at) {
    Row row = rows.get(at);
    Subject without = after(rows, at);
    Subject with = after(rows, at + 1);
    long[] before = statuses(without);
    long[] then = statuses(with);
    for (int which = -1; which < FINDINGS.size(); which++) {
      boolean counts = row.isRefused() && (which == -1 || FINDINGS.get(which).equals(row.answer));
      must(then[which + 1] == before[which + 1] + (counts ? 1 : 0), sentence,
          row.text + " left status(" + which + ") at " + then[which + 1] + ", was " + before[which + 1]);
    }
    String due = tellAll(without);
    String got = tellAll(with);
    must(got.equals(due), sentence, row.text + " changed something:\n " + got + "\ndue is\n " + due);
    must(mayBeLong || with.calls <= PROMISED_CALLS, sentence, "the test asks more than is promised: " + with.calls + " calls");
  }

  void run(String sentence, String told) {
    List<Row> rows = rows(told);
    Subject x = new Subject();
    long[] due = new long[FINDINGS.size()];
    for (int i = 0; i < rows.size(); i++) {
      Row row = rows.get(i);
      long got = x.ask(row);
      if (row.answer != null) must(got == number(row.answer), sentence, row.text + ", but answered " + got);
      if (row.isRefused()) due[FINDINGS.indexOf(row.answer)]++;
      if (row.changesNothing()) mustChangeNothing(sentence, rows, i);
    }
    must(mayBeLong || x.calls <= PROMISED_CALLS, sentence, "the test asks more than is promised: " + x.calls + " calls");
    for (int which = 0; which < due.length; which++) {
      long got = x.ask("status", which);
      must(got == due[which], sentence, FINDINGS.get(which) + " was answered " + got + " times, due is " + due[which] + " in:\n" + told);
    }
  }

  /** For what can only be reached by more calls than the document promises anything of. */
  void runLong(String sentence, String told) {
    mayBeLong = true;
    run(sentence, told);
    mayBeLong = false;
  }

  /** A call with a "?" is answered for each number from least to most, and refused for those beside them. */
  void range(String sentence, String before, String call, int least, int most) {
    for (int v = least; v <= most; v++) run(sentence, before + "\n" + call.replace("?", "" + v));
    outside(sentence, before, call, least, most);
  }

  /** Refused below least and above most. */
  void outside(String sentence, String before, String call, int least, int most) {
    int[] beside = {least - 1, least - 2, Integer.MIN_VALUE, Integer.MIN_VALUE + 1, most + 1, most + 2, Integer.MAX_VALUE,
        Integer.MAX_VALUE - 1, least + 256, least + 65536};
    for (int v : beside) {
      if (v < least || v > most) run(sentence, before + "\n" + call.replace("?", "" + v) + " = BEYOND");
    }
  }

  void end() {
    System.out.println(asked + " answers asked, " + wrong + " wrong");
    if (wrong != 0) System.exit(1);
  }
}
