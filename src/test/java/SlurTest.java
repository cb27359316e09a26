/** Promise 7: slur. */
public final class SlurTest {
    private static final Due due = new Due();

    public static void main(String[] args) {
        wrongSlurs();
        sides();
        betweenToldFirst();
        sideStays();
        ends();
        cutOff();
        twoParts();
        due.end();
    }

    private static void wrongSlurs() {
        CurveTies ties = new CurveTies();
        for (int i = 0; i < 3; i++) {
            ties.line(150);
        }
        ties.note(0, 50, 5, true);
        ties.note(0, 61, 9, true);
        ties.note(0, 62, -9, true);
        ties.note(0, 139, 0, true);
        ties.note(0, 138, 0, true);
        ties.note(1, 11, 0, true);
        ties.note(1, 12, 0, true);
        ties.note(2, 50, 0, true);
        due.is("slur(-1, 0)", ties.slur(-1, 0), CurveTies.UNKNOWN);
        due.is("slur(0, 8)", ties.slur(0, 8), CurveTies.UNKNOWN);
        due.is("11 on one line", ties.slur(0, 1), CurveTies.STATE);
        due.is("backwards", ties.slur(2, 0), CurveTies.STATE);
        due.is("11 before the end", ties.slur(3, 6), CurveTies.STATE);
        due.is("11 behind the beginning", ties.slur(4, 5), CurveTies.STATE);
        due.is("over a whole line", ties.slur(0, 7), CurveTies.STATE);
        due.is("12 on one line, unlike heights", ties.slur(0, 2), 0);
        due.is("12 and 12 over the end", ties.slur(4, 6), 1);
    }

    private static int slurSide(boolean up, boolean up2, int line, int x) {
        CurveTies ties = new CurveTies();
        for (int i = 0; i < 4; i++) {
            ties.line(200);
        }
        ties.note(1, 100, 0, up);
        ties.note(2, 100, 0, up2);
        ties.note(line, x, 0, false);
        ties.slur(0, 1);
        return ties.curve(0, 2);
    }

    private static void sides() {
        due.is("all up", slurSide(true, true, 0, 150), -1);
        due.is("the first one down", slurSide(false, true, 0, 150), 1);
        due.is("the second one down", slurSide(true, false, 0, 150), 1);
        due.is("one down at the first one's x", slurSide(true, true, 1, 100), -1);
        due.is("one down behind it", slurSide(true, true, 1, 101), 1);
        due.is("one down at the end of the line", slurSide(true, true, 1, 200), 1);
        due.is("one down at the beginning of the next", slurSide(true, true, 2, 0), 1);
        due.is("one down before the second one", slurSide(true, true, 2, 99), 1);
        due.is("one down at the second one's x", slurSide(true, true, 2, 100), -1);
        due.is("one down before the first one", slurSide(true, true, 1, 99), -1);
        due.is("one down behind the second one", slurSide(true, true, 2, 101), -1);
        due.is("one down on a later line", slurSide(true, true, 3, 50), -1);
    }

    private static void betweenToldFirst() {
        CurveTies ties = new CurveTies();
        ties.line(300);
        ties.note(0, 140, 0, false);
        ties.note(0, 100, 0, true);
        ties.note(0, 180, 0, true);
        due.is("slur", ties.slur(1, 2), 0);
        due.is("one down between, told first", ties.curve(0, 2), 1);
    }

    private static void sideStays() {
        CurveTies ties = new CurveTies();
        ties.line(300);
        ties.note(0, 100, 0, true);
        ties.note(0, 180, 0, true);
        ties.slur(0, 1);
        ties.tie(0, 1);
        ties.note(0, 140, 0, false);
        ties.note(0, 100, -50, false);
        due.is("again", ties.again(), 0);
        due.is("the slur's side stays", ties.curve(0, 2), -1);
        due.is("the tie's side stays", ties.curve(1, 2), -1);
        due.is("a slur told now", ties.slur(0, 1), 2);
        due.is("it lies above", ties.curve(2, 2), 1);
        due.is("a tie told now", ties.tie(0, 1), 3);
        due.is("it lies above, too", ties.curve(3, 2), 1);
    }

    private static void ends() {
        CurveTies ties = new CurveTies();
        ties.line(300);
        ties.note(0, 100, 0, true);
        ties.note(0, 180, 40, false);
        ties.note(0, 260, 40, true);
        ties.note(0, 250, 40, true);
        due.is("above, first stem up", ties.slur(0, 1), 0);
        due.points("above, first stem up", ties, 0, 0, 100, 28, 120, 46, 160, 54, 180, 44);
        due.is("above, second stem up", ties.slur(1, 2), 1);
        due.points("above, second stem up", ties, 1, 0, 180, 44, 200, 64, 240, 76, 260, 68);
        due.is("above, both stems up", ties.slur(0, 2), 2);
        due.is("it begins at", ties.point(2, 0, 0, 1), 28 + 4 * (ties.part(2, 0, 1) / 8));
        due.is("it ends at", ties.point(2, 0, 3, 1), 68 + 4 * (ties.part(2, 0, 1) / 8));
        due.is("a slur has 24 candidates", ties.part(2, 0, 5), 24);
        due.is("it is a slur", ties.curve(2, 4), 0);
        due.is("its ARCH", ties.part(2, 0, 4), 20);
    }

    /** Quotients are cut off toward 0, each on its own way. */
    private static void cutOff() {
        CurveTies ties = new CurveTies();
        ties.line(300);
        ties.note(0, 100, 3, true);
        ties.note(0, 119, -4, true);
        due.is("falling below", ties.slur(0, 1), 0);
        due.is("ARCH with d 19", ties.part(0, 0, 4), 6);
        due.points("falling below", ties, 0, 0, 100, -1, 104, -8, 115, -13, 119, -8);
        ties.note(0, 200, -4, false);
        ties.note(0, 223, 3, false);
        due.is("rising above", ties.slur(2, 3), 1);
        due.is("ARCH with d 23", ties.part(1, 0, 4), 6);
        due.points("rising above", ties, 1, 0, 200, 0, 205, 7, 218, 12, 223, 7);
    }

    private static void twoParts() {
        CurveTies ties = new CurveTies();
        ties.line(150);
        ties.line(400);
        ties.note(0, 100, 10, true);
        ties.note(1, 300, -10, false);
        due.is("over the end", ties.slur(0, 1), 0);
        due.is("its parts", ties.curve(0, 3), 2);
        due.is("line of part 0", ties.part(0, 0, 0), 0);
        due.is("line of part 1", ties.part(0, 1, 0), 1);
        due.points("part 0", ties, 0, 0, 100, 38, 112, 48, 138, 48, 150, 38);
        due.points("part 1", ties, 0, 1, 0, -6, 75, 14, 225, 14, 300, -6);
        due.is("ARCH of part 0", ties.part(0, 0, 4), 10);
        due.is("ARCH of part 1", ties.part(0, 1, 4), 20);
    }
}
