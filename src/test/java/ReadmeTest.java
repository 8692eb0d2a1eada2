import java.io.IOException;
import java.nio.file.Files;
import java.nio.file.Path;

// The example in README.md: that it stands there as it is here, and that its comments tell what the calls answer.
public final class ReadmeTest {
  private static String readme;
  private static int wrong = 0;

  /** A line of the example, with the number that its comment begins with. */
  private static void due(String line, long got) {
    int at = readme.indexOf(line);
    String told = at < 0 ? "" : readme.substring(at, readme.indexOf('\n', at));
    if (!told.matches(".*// " + got + "\\b.*")) {
      wrong++;
      System.out.println(line + " answered " + got + ", but README.md has <" + told + ">");
    }
  }

  private static void fed(String text, int bytes, int got) {
    if (got != bytes || !readme.contains("\"" + text + "\"")) {
      wrong++;
      System.out.println("feed of \"" + text + "\" answered " + got + ", due is " + bytes + ", or README.md has another text");
    }
  }

  public static void main(String[] args) throws IOException {
    readme = Files.readString(Path.of("README.md"));
    CollarNames x = new CollarNames();
    int lily = x.person(0);
    due("int lily = x.person(0);", lily);
    int cardigan = x.garment(lily, 1);
    due("int cardigan = x.garment(lily, 1);", cardigan);
    due("x.heat(90);", x.heat(90));
    due("int lostIn = x.lost(cardigan);", x.lost(cardigan));
    due("x.weeks(7);", x.weeks(7));
    due("int with = x.garmentOf(cardigan, 3);", x.garmentOf(cardigan, 3));
    due("int none = x.heat(91);", x.heat(91));
    String text = "deaf; pen 1";
    for (int i = 0; i < text.length(); i++) {
      fed(text, i + 1, x.feed(text.charAt(i), 1));
    }
    due("int items = x.home();", x.home());
    System.out.println(wrong == 0 ? "the example answers as README.md says" : wrong + " lines of README.md are wrong");
    if (wrong != 0) System.exit(1);
  }
}
