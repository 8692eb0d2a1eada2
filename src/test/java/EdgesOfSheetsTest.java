// Section 3 of the document and promises 27 to 32.
public final class EdgesOfSheetsTest {
  private static final Told T = new Told();

  private static void sheet() {
    T.run("SHEETS 0 to 3 .. or MISSING (at first)", """
        write(0, 0, 1) = MISSING | write(3, 0, 1) = MISSING | sheet(3, 8, 1) = 1 | write(3, 0, 1) = 0 | write(2, 0, 1) = MISSING
        sheet(4, 8, 1) = BEYOND | sheet(-1, 8, 1) = BEYOND
        """);
    for (int bits : new int[] {8, 16, 64}) {
      String b = "sheet(0, " + bits + ", ";
      T.run("27: A sheet has n numbers, all 0", b + "40) = 40 | write(0, 39, 7) = 0 | write(0, 0, 5) = 0 | write(0, 40, 0) = BEYOND\n"
          + b + "40) = 40 | write(0, 39, 1) = 0 | write(0, 0, 1) = 0\n"
          + b + "39) = 39 | write(0, 39, 0) = BEYOND | write(0, 38, 3) = 0 | " + b + "40) = 40 | write(0, 38, 0) = 0 | write(0, 39, 0) = 0\n"
          + b + "1) = 1 | write(0, 0, 9) = 0 | write(0, 1, 0) = BEYOND | " + b + "0) = 0 | write(0, 0, 0) = BEYOND | lays(0) = 0\n"
          + b + "40) = 40 | write(0, 0, 0) = 0");
      T.run("27: bits 0: it is MISSING", b + "4) = 4 | write(0, 3, 5) = 0 | sheet(0, 0, 0) = 0 | write(0, 0, 0) = MISSING | lays(0) = MISSING\n"
          + b + "4) = 4 | write(0, 3, 5) = 0 | sheet(0, 0, 40) = 0 | copy(0, 0, 0, 0, 0) = MISSING | sheet(0, 0, 4) = 0\n"
          + b + "4) = 4 | write(0, 3, 0) = 0");
      T.run("27: the others stay", b + "2) = 2 | sheet(1, 8, 2) | sheet(3, 64, 2) | write(0, 1, 4) | write(1, 1, 5) | write(3, 1, 6) | sheet(2, "
          + bits + ", 2) | sheet(1, 0, 0)\n write(0, 1, 0) = 4 | write(1, 1, 0) = MISSING | write(3, 1, 0) = 6 | write(2, 1, 0) = 0");
    }
    T.run("27: SIZE: n is below 0 (also with bits 0). BEYOND: n is above 40 (also with bits 0)", """
        sheet(0, 8, 3) | write(0, 2, 7) | sheet(0, 8, -1) = SIZE | sheet(0, 0, -1) = SIZE | sheet(0, 0, MIN) = SIZE | sheet(0, 8, 41) = BEYOND
        sheet(0, 0, 41) = BEYOND | sheet(0, 0, MAX) = BEYOND | write(0, 2, 0) = 7 | write(0, 3, 0) = BEYOND
        """);
  }

  private static void write() {
    writes("28: 8 bits", 8, new long[][] {{127, 127}, {128, -128}, {255, -1}, {256, 0}, {257, 1}, {-1, -1}, {-128, -128}, {-129, 127},
        {32767, -1}, {-32768, 0}, {Integer.MAX_VALUE, -1}, {Integer.MIN_VALUE, 0}, {Long.MAX_VALUE, -1}, {Long.MIN_VALUE, 0},
        {Long.MIN_VALUE + 5, 5}, {-1000000001L, -1}});
    writes("28: 16 bits", 16, new long[][] {{127, 127}, {128, 128}, {-129, -129}, {32767, 32767}, {32768, -32768}, {65535, -1}, {65536, 0},
        {65537, 1}, {-1, -1}, {-32768, -32768}, {-32769, 32767}, {Integer.MAX_VALUE, -1}, {Integer.MIN_VALUE, 0}, {Long.MAX_VALUE, -1},
        {Long.MIN_VALUE, 0}, {Long.MIN_VALUE + 5, 5}});
    writes("28: 64 bits", 64, new long[][] {{128, 128}, {-129, -129}, {32768, 32768}, {-32769, -32769}, {Integer.MAX_VALUE, Integer.MAX_VALUE},
        {Integer.MAX_VALUE + 1L, Integer.MAX_VALUE + 1L}, {Integer.MIN_VALUE - 1L, Integer.MIN_VALUE - 1L}, {4294967296L, 4294967296L},
        {Long.MAX_VALUE, Long.MAX_VALUE}, {Long.MIN_VALUE, Long.MIN_VALUE}, {Long.MAX_VALUE - 1, Long.MAX_VALUE - 1}, {-1, -1}});
    T.run("28: what it was may be like a finding, and is none", """
        sheet(0, 64, 1) | write(0, 0, -1000000001) = 0 | write(0, 0, -1000000006) = -1000000001 | write(0, 0, -1000000007) = -1000000006
        write(0, 0, 0) = -1000000007 | status(-1) = 0 | write(0, 1, 0) = BEYOND | status(-1) = 1
        """);
    T.run("28: BEYOND: no such sheet. MISSING. BEYOND: no such number (of the longs, too)", """
        sheet(0, 64, 2) | write(0, 1, LMAX) = 0 | write(0, 2, LMIN) = BEYOND | write(0, -1, LMAX) = BEYOND | write(0, MIN, LMIN) = BEYOND
        write(0, MAX, LMAX) = BEYOND | write(1, 0, LMIN) = MISSING | write(4, 0, LMAX) = BEYOND | write(0, 1, 0) = LMAX | write(0, 0, 0) = 0
        """);
  }

  private static void writes(String sentence, int bits, long[][] putAndGot) {
    for (int at : new int[] {0, 20, 39}) {
      StringBuilder rows = new StringBuilder("sheet(2, " + bits + ", 40)\n");
      long was = 0;
      for (long[] p : putAndGot) {
        rows.append("write(2, " + at + ", " + p[0] + ") = " + was + "\n");
        was = p[1];
      }
      T.run(sentence + " (its lowest bits): what it was", rows + "write(2, " + at + ", 0) = " + was + "\nwrite(2, 19, 0) = 0\nwrite(2, 1, 0) = 0");
    }
  }

  private static void copy() {
    String five = "sheet(0, 16, 5) | write(0, 0, 1) | write(0, 1, 2) | write(0, 2, 3) | write(0, 3, 4) | write(0, 4, -5)\n";
    T.run("29: (as they all were): to the right within a sheet", five + """
        copy(0, 0, 0, 1, 4) = 4 | write(0, 0, 0) = 1 | write(0, 1, 0) = 1 | write(0, 2, 0) = 2 | write(0, 3, 0) = 3 | write(0, 4, 0) = 4
        """);
    T.run("29: (as they all were): to the left within a sheet", five + """
        copy(0, 1, 0, 0, 4) = 4 | write(0, 0, 0) = 2 | write(0, 1, 0) = 3 | write(0, 2, 0) = 4 | write(0, 3, 0) = -5 | write(0, 4, 0) = -5
        """);
    T.run("29: onto itself", five + "copy(0, 0, 0, 0, 5) = 5 | write(0, 0, 0) = 1 | write(0, 4, 0) = -5");
    T.run("29: n numbers of a sheet from one on come to another one from one on: n", five + """
        sheet(1, 16, 3) | write(1, 0, 9) | copy(0, 3, 1, 1, 2) = 2 | write(1, 0, 0) = 9 | write(1, 1, 0) = 4 | write(1, 2, 0) = -5 | write(0, 3, 0) = 4
        """);
    T.run("29: of 0 numbers", five + """
        sheet(1, 16, 0) | copy(0, 0, 1, 0, 0) = 0 | copy(0, 5, 1, 0, 0) = 0 | copy(1, 0, 0, 5, 0) = 0 | copy(1, 0, 1, 0, 0) = 0
        copy(0, 6, 1, 0, 0) = BEYOND | copy(0, 0, 1, 1, 0) = BEYOND | copy(1, 1, 1, 0, 0) = BEYOND | copy(0, 0, 1, 0, 1) = BEYOND
        """);
    T.run("29: of all 40, of 64 bits", """
        sheet(0, 64, 40) | sheet(3, 64, 40) | write(0, 0, LMIN) | write(0, 39, LMAX) | copy(0, 0, 3, 0, 40) = 40 | write(3, 0, 0) = LMIN
        write(3, 39, 0) = LMAX | copy(0, 0, 3, 0, 41) = BEYOND | copy(0, 1, 3, 0, 40) = BEYOND | copy(0, 0, 3, 1, 40) = BEYOND | copy(0, 39, 3, 0, 1) = 1
        write(3, 0, 0) = LMAX
        """);
    T.run("29: KIND: they are not of as many bits", """
        sheet(0, 8, 2) | sheet(1, 16, 2) | sheet(2, 64, 2) | copy(0, 0, 1, 0, 1) = KIND | copy(1, 0, 2, 0, 1) = KIND | copy(2, 0, 0, 0, 1) = KIND
        copy(0, 0, 0, 0, 1) = 1 | copy(1, 0, 1, 0, 1) = 1 | copy(2, 0, 2, 0, 1) = 1
        """);
  }

  private static void lays() {
    T.run("30: those that aren't 0 to 99, or stand for none, are left out: how many came", """
        person(0) | 5 x garment(0, 0) | sheet(0, 64, 7)
        write(0, 0, 0) | write(0, 1, 99) | write(0, 2, 100) | write(0, 3, -1) | write(0, 4, 50) | write(0, 5, 7) | write(0, 6, 8)
        sew(0, 2, 40) | sew(1, 2, 41) | sew(2, 2, 42) | sew(3, 2, 43) | sew(4, 2, 44) | lays(0) = 3
        garmentOf(0, 2) = 0 | garmentOf(1, 2) = 99 | garmentOf(2, 2) = 42 | garmentOf(3, 2) = 43 | garmentOf(4, 2) = 50 | count(1) = 5
        """);
    T.run("30: longs that look like 0 to 99 in their lowest bits", """
        person(0) | 6 x garment(0, 0) | sheet(0, 64, 6) | write(0, 0, 4294967301) | write(0, 1, LMIN) | write(0, 2, LMAX) | write(0, 3, -4294967291)
        write(0, 4, 256) | write(0, 5, 65541) | lays(0) = 0 | count(3) = 594
        """);
    T.run("30: of 8 bits", "person(0) | 3 x garment(0, 0) | sheet(1, 8, 3) | write(1, 0, 256) | write(1, 1, 127) | write(1, 2, 255) | lays(1) = 1 | count(3) = 198");
    T.run("30: a sheet shorter than there are GARMENTS, or longer, or of none", """
        person(0) | 10 x garment(0, 0) | sheet(0, 8, 9) | lays(0) = 9 | garmentOf(8, 2) = 0 | garmentOf(9, 2) = 99 | count(3) = 99
        sheet(0, 8, 40) | lays(0) = 10 | count(3) = 0 | sheet(0, 8, 0) | lays(0) = 0
        """);
    T.run("30: no GARMENTS", "sheet(0, 8, 40) | lays(0) = 0 | person(0) | lays(0) = 0 | lays(1) = MISSING | lays(4) = BEYOND");
    T.run("30: on the heap and WITH another, too", """
        person(0) | person(0) | garment(0, 0) | garment(0, 0) | sew(0, 3, -1) | sew(1, 3, 1) | sheet(3, 16, 2) | write(3, 0, 12) | lays(3) = 2
        garmentOf(0, 2) = 12 | garmentOf(1, 2) = 0 | garmentOf(0, 3) = -1 | garmentOf(1, 3) = 1
        """);
  }

  private static void book() {
    for (int bits : new int[] {8, 16, 64}) {
      T.run("31: WITH whom a garment is (-1: on the heap) 0, 1, 2, .. WEEKS AHEAD: how many; nothing else changes", ("""
          person(1) | person(0) | garment(0, 0) | sew(0, 2, 21) | sew(0, 3, 1) | sew(0, 3, 0) | sheet(1, @, 6) | sheet(2, @, 1) | write(2, 0, 7)
          book(1, 0) = 6 | garmentOf(0, 2) = 21 | now(0) = 0
          write(1, 0, 9) = 0 | write(1, 1, 9) = 0 | write(1, 2, 9) = 0 | write(1, 3, 9) = -1 | write(1, 4, 9) = 0 | write(1, 5, 9) = -1
          write(2, 0, 0) = 7
          """).replace("@", "" + bits));
    }
    T.run("31: as many as it has numbers: 0, 1 and 40", """
        person(0) | garment(0, 0) | sew(0, 3, -1) | sew(0, 2, 0) | sheet(0, 8, 0) | book(0, 0) = 0 | sheet(0, 8, 1) | book(0, 0) = 1 | write(0, 0, 0) = -1
        sheet(0, 64, 40) | book(0, 0) = 40 | write(0, 39, 0) = -1 | turn(0, 1) | book(0, 0) = 40 | write(0, 1, 0) = -1 | write(0, 2, 0) = 0
        """);
    // 59 is read for person 0: 39 weeks ahead 60 is left, the last number of a sheet of 40.
    T.run("31: the last of 40 is 39 WEEKS AHEAD", """
        4 x person(0) | garment(3, 0) | sheet(0, 8, 40) | book(0, 0) = 40 | write(0, 39, 0) = 3 | sew(0, 2, 98) | book(0, 0) | write(0, 39, 0) = 0
        write(0, 38, 0) = 3
        """);
  }

  private static void read() {
    String one = "person(0) | garment(0, 0) | sheet(0, 64, 1)\n";
    T.run("32: a sheet of one number tells WITH whom it is now: all pairs or none", one + """
        read(0, 0) = 300 | write(0, 0, 1) | read(0, 0) = 0 | write(0, 0, -1) | read(0, 0) = 0 | sew(0, 3, -1) | read(0, 0) = 300
        write(0, 0, 4294967295) | read(0, 0) = 0 | write(0, 0, LMAX) | read(0, 0) = 0 | write(0, 0, LMIN) | read(0, 0) = 0
        sew(0, 3, 0) | write(0, 0, 4294967296) | read(0, 0) = 0 | write(0, 0, 256) | read(0, 0) = 0
        """);
    T.run("32: a sheet of no numbers: all pairs", "person(0) | garment(0, 0) | sheet(0, 8, 0) | read(0, 0) = 300");
    T.run("32: of 8 bits, 255 is -1", "person(0) | garment(0, 0) | sew(0, 3, -1) | sheet(0, 8, 1) | write(0, 0, 255) | read(0, 0) = 300");
    // With its owner now, and on the heap a week ahead: names of which less than 20 is left: sewn to 20, ironed to 29, pen to 29 at 60.
    T.run("32: how many pairs of a MARK (0 to 2) and a NAME (0 to 99)", """
        person(0) | garment(0, 1) | sew(0, 2, 3) | sheet(0, 8, 2) | write(0, 1, -1) | read(0, 0) = 81 | write(0, 1, 0) | read(0, 0) = 219
        heat(90) | read(0, 0) = 211 | heat(20) | read(0, 0) = 227 | garmentOf(0, 1) = 1 | garmentOf(0, 2) = 3
        """);
    // Owner 3, person 0 of its band: 60 or more left stays with 3 (sewn 61 to 99, 70 to 99 twice), 20 to 59 comes to 0.
    T.run("32: make it just so", """
        4 x person(0) | garment(3, 0) | sheet(0, 16, 2) | write(0, 0, 3) | write(0, 1, 3) | read(0, 0) = 99 | write(0, 1, 0) | read(0, 0) = 120
        write(0, 1, -1) | read(0, 0) = 81 | write(0, 1, 1) | read(0, 0) = 0 | write(0, 1, 0) | write(0, 0, 0) | read(0, 0) = 0
        """);
    // Sewn, 99 is the only one that is with its owner 39 weeks ahead; ironed and pen are not.
    T.run("32: of 40 numbers", """
        4 x person(0) | garment(3, 2) | sew(0, 1, 0) | sheet(0, 8, 40) | book(0, 0) | read(0, 0) = 1 | sew(0, 2, 5) | sew(0, 1, 2) | read(0, 0) = 1
        write(0, 39, 1) = 3 | read(0, 0) = 0
        """);
  }

  public static void main(String[] args) {
    sheet();
    write();
    copy();
    lays();
    book();
    read();
    T.end();
  }
}
