// Promises 33 to 37: what is kept, what is counted, and how often a finding was told.
public final class EdgesOfImagesTest {
  private static final Told T = new Told();

  private static void images() {
    T.run("33: All that section 1 tells is kept; 34: It becomes what was kept latest", """
        person(2) | person(4) | set(0, 1, 2) | set(0, 2, 31) | set(1, 3, 1) | garment(1, 2) | sew(0, 2, 44) | sew(0, 3, 0) | garment(0, 1) | sew(1, 3, -1)
        heat(33) | weeks(3) | of(0, 2) = 1034 | garmentOf(0, 2) = 29 | image() = 1
        turn(0, 1) | set(0, 1, 0) | set(0, 2, 9) | set(1, 3, 0) | sew(0, 0, 0) | sew(0, 1, 0) | sew(0, 2, 99) | sew(0, 3, -1) | heat(90) | weeks(1)
        person(0) | garment(2, 2) | undo() = 2
        count(0) = 2 | count(1) = 2 | now(0) = 3 | now(1) = 33 | of(0, 0) = 2 | of(0, 1) = 2 | of(0, 2) = 1034 | of(1, 3) = 1
        garmentOf(0, 0) = 1 | garmentOf(0, 1) = 2 | garmentOf(0, 2) = 29 | garmentOf(0, 3) = 0 | garmentOf(1, 3) = -1
        """);
    T.run("33: (THE TAPE not)", """
        tape "heat 21" | image() = 1 | tape ";guest" | undo() = 0 | count(2) = 13 | home() = 2 | undo() = 0 | count(2) = 0 | count(0) = 0 | now(1) = 60
        """);
    T.run("33: sheets are not kept", "sheet(0, 8, 1) | image() | write(0, 0, 5) | sheet(1, 16, 2) | undo() = 0 | write(0, 0, 0) = 5 | write(1, 1, 0) = 0");
    T.run("34: what was kept latest (which stays)", """
        heat(21) | image() = 1 | heat(22) | image() = 1 | heat(23) | undo() = 0 | now(1) = 22 | heat(24) | undo() = 0 | now(1) = 22 | undo() = 0 | now(1) = 22
        """);
    T.run("34: how many PEOPLE", "image() | person(0) | undo() = 0 | 6 x person(0) | image() | undo() = 6 | count(0) = 6 | person(0) = FULL");
    T.run("34: an image is not what came later", "person(0) | image() | set(0, 2, 5) | undo() | of(0, 2) = 1000 | set(0, 2, 6) | undo() | of(0, 2) = 1000");
    T.run("34: NONE: nothing is kept", "undo() = NONE | person(0) | undo() = NONE | count(0) = 1 | image() | undo() = 1 | tear() = 1 | undo() = NONE");
    T.run("35: Nothing is kept: 1 if something was, else 0", """
        tear() = 0 | image() = 1 | tear() = 1 | tear() = 0 | undo() = NONE | image() = 1 | image() = 1 | tear() = 1 | tear() = 0 | undo() = NONE
        """);
    T.run("34: undo() keeps what undo() gave", "image() | undo() = 0 | tear() = 1 | tear() = 0");
    T.run("34: kinds, after looks ahead that try others", """
        person(2) | garment(0, 1) | image() | kind(0, 60) | mark(0, 40) | warmest(0, 1) | plain(0, 1) | teach(60) | undo() = 1
        of(0, 0) = 2 | garmentOf(0, 1) = 1 | garmentOf(0, 2) = 99 | now(1) = 60
        """);
  }

  private static void counts() {
    T.run("36: 0 PEOPLE, 1 GARMENTS, 2 bytes of THE TAPE, 3 NAMES of all together", """
        count(0) = 0 | count(1) = 0 | count(2) = 0 | count(3) = 0 | 6 x person(0) | 10 x garment(0, 0) | 30 x feed(0, 4)
        count(0) = 6 | count(1) = 10 | count(2) = 120 | count(3) = 990 | sew(0, 2, 0) | sew(9, 2, 1) | count(3) = 793 | sew(9, 3, -1) | count(3) = 793
        set(0, 3, 1) | count(0) = 6 | count(4) = BEYOND | count(-1) = BEYOND | count(MIN) = BEYOND | count(MAX) = BEYOND
        """);
  }

  private static void status() {
    T.run("37: which -1: all, 0 to 6: BEYOND to SIZE", """
        status(-1) = 0 | status(0) = 0 | status(1) = 0 | status(2) = 0 | status(3) = 0 | status(4) = 0 | status(5) = 0 | status(6) = 0
        heat(0) = BEYOND | status(0) = 1 | status(-1) = 1 | 6 x person(0) | person(0) = FULL | status(1) = 1 | as(0, 1) = KIND | status(2) = 1
        undo() = NONE | status(3) = 1 | lays(0) = MISSING | status(5) = 1 | sheet(0, 8, -1) = SIZE | status(6) = 1 | status(4) = 0
        status(-1) = 6 | write(0, 0, 0) = MISSING | status(5) = 2 | status(-1) = 7 | status(0) = 1
        """);
    T.run("37: BEYOND (counted from then on): another one", """
        status(7) = BEYOND | status(0) = 1 | status(-2) = BEYOND | status(0) = 2 | status(-1) = 2 | status(MIN) = BEYOND | status(MAX) = BEYOND | status(-1) = 4
        """);
    T.run("37: (undo() takes none back)", """
        image() | heat(19) = BEYOND | undo() = 0 | status(0) = 1 | image() | heat(19) = BEYOND | undo() = 0 | status(0) = 2 | tear() = 1 | undo() = NONE
        status(-1) = 3 | status(3) = 1
        """);
    T.run("26, 37: a FAULT is no finding", "home() = -1 | tape \"guest;\" | home() = -7 | status(-1) = 0 | status(0) = 0");
    T.run("11, 14: -1 is no finding", "person(0) | garment(0, 0) | sew(0, 3, -1) = 0 | sew(0, 3, -1) = -1 | garmentOf(0, 3) = -1 | on(0, 0, 1) = -1 | status(-1) = 0");
    T.runLong("37: ever", "499 x heat(91) = BEYOND | status(0) = 499 | status(-1) = 499");
  }

  public static void main(String[] args) {
    images();
    counts();
    status();
    T.end();
  }
}
