/** Chapter 3: what MEETS what ("one on an edge, too") and what lies WITHIN what, where it just does and just does not. */
public final class MeetTest {
    private static final Due due = new Due();

    public static void main(String[] args) {
        hullOnHull();
        endOnEnd();
        nothingButWithin();
        barsAtTheEndOfALine();
        barsAtTheBeginningOfALine();
        smallestBars();
        barsBeyondTheLine();
        exactly();
        withinByOne();
        tieWithinByOne();
        withinOverTheEnd();
        notWithinAcross();
        due.end();
    }

    /** The inner HULL's upper edge is at 10; the outer one's lower edge at its NOTES' height and 4. */
    private static void hullOnHull() {
        for (int height = 5; height <= 7; height++) {
            CurveTies ties = new CurveTies();
            ties.line(300);
            ties.note(0, 120, 0, false);
            ties.note(0, 140, 0, false);
            ties.note(0, 100, height, false);
            ties.note(0, 160, height, false);
            ties.slur(0, 1);
            due.points("inner", ties, 0, 0, 120, 4, 125, 10, 135, 10, 140, 4);
            ties.slur(2, 3);
            int apart = height + 4 > 10 ? 1 : 0;
            due.is("hulls met, outer notes at " + height, ties.candidate(1, 0, 0, 1), 1 - apart);
            due.is("chosen, outer notes at " + height, ties.part(1, 0, 1), apart == 1 ? 0 : 8);
        }
    }

    /** The two HULLS have nothing together but the first END; on the other way nothing but the second one. */
    private static void endOnEnd() {
        for (int away = 0; away <= 1; away++) {
            CurveTies ties = new CurveTies();
            ties.line(300);
            ties.note(0, 100, 0, false);
            ties.note(0, 200, 0, false);
            ties.note(0, 100, -away, false);
            ties.note(0, 120, -50, false);
            ties.note(0, 180, -50, false);
            ties.note(0, 200, -away, false);
            ties.slur(2, 3);
            ties.slur(4, 5);
            due.is("first END", ties.point(0, 0, 0, 1), 4 - away);
            due.is("second END", ties.point(1, 0, 3, 1), 4 - away);
            ties.slur(0, 1);
            due.is("hulls met at their ENDS", ties.candidate(2, 0, 0, 1), away == 0 ? 2 : 0);
            due.is("hulls met, 4 farther", ties.candidate(2, 0, 8, 1), 0);
            due.is("chosen", ties.part(2, 0, 1), away == 0 ? 8 : 0);
        }
    }

    /** HULLS that cross do not count, if the PART does not lie WITHIN. */
    private static void nothingButWithin() {
        CurveTies ties = new CurveTies();
        ties.line(300);
        ties.note(0, 99, 0, false);
        ties.note(0, 100, 0, false);
        ties.note(0, 180, 0, false);
        ties.note(0, 181, 0, false);
        ties.note(0, 100, 0, true);
        ties.note(0, 180, 0, true);
        ties.slur(0, 2);
        ties.slur(1, 3);
        due.is("begins before", ties.candidate(1, 0, 0, 1), 0);
        ties.slur(1, 2);
        due.is("begins before, and ends behind", ties.candidate(2, 0, 0, 1), 0);
        due.is("chosen", ties.part(2, 0, 1), 0);
        ties.tie(4, 5);
        due.is("a tie on the other side", ties.curve(3, 2), -1);
        due.is("parts within it", ties.candidate(3, 0, 7, 1), 0);
        ties.slur(0, 3);
        due.is("three of its side within", ties.candidate(4, 0, 0, 1), 3);
        due.is("the tie is not", ties.within(3, 0, 4, 0), 0);
        due.is("told later, so not within", ties.candidate(0, 0, 0, 1), 0);
        due.is("again", ties.again(), 0);
        due.is("the first one stays", ties.part(0, 0, 1), 0);
    }

    /** A SLUR below from (100, 0) over the end of a LINE of 150: PART 0 ends at (150, -4), PART 1 begins at (0, -4). */
    private static CurveTies overTheEnd() {
        CurveTies ties = new CurveTies();
        ties.line(150);
        ties.line(200);
        ties.note(0, 100, 0, true);
        ties.note(1, 60, 0, true);
        due.is("slur", ties.slur(0, 1), 0);
        due.points("part 0", ties, 0, 0, 100, -4, 112, -14, 138, -14, 150, -4);
        due.points("part 1", ties, 0, 1, 0, -4, 15, -15, 45, -15, 60, -4);
        return ties;
    }

    private static void met(String name, int want0, int want1, String call, int... arguments) {
        CurveTies ties = overTheEnd();
        due.is(Told.text(call, arguments), Told.call(ties, call, arguments), 1);
        due.is(name + ", by part 0", ties.candidate(0, 0, 0, 0), want0);
        due.is(name + ", by part 1", ties.candidate(0, 1, 0, 0), want1);
    }

    private static void barsAtTheEndOfALine() {
        met("a mark's lower corner on the END", 1, 0, "mark", 0, 150, -4, 200, 200);
        met("a mark one above it", 0, 0, "mark", 0, 150, -3, 200, 200);
        met("a mark's upper corner on the END", 1, 0, "mark", 0, 150, -5, 200, 1);
        met("a mark one below it", 0, 0, "mark", 0, 150, -6, 200, 1);
        met("a mark's side on the END", 1, 0, "mark", 0, 150, -104, 1, 200);
        met("a wedge's tip on the END", 1, 0, "wedge", 0, 150, 149, -4, 1);
        met("a wedge's upper end on the END", 1, 0, "wedge", 0, 149, 150, -44, 40);
        met("a wedge's upper end one below", 0, 0, "wedge", 0, 149, 150, -45, 40);
        met("a wedge's lower end on the END", 1, 0, "wedge", 0, 149, 150, 36, 40);
        met("a wedge's lower end one above", 0, 0, "wedge", 0, 149, 150, 37, 40);
    }

    private static void barsAtTheBeginningOfALine() {
        met("a mark's corner on the END", 0, 1, "mark", 1, 0, -4, 1, 1);
        met("a mark one above it", 0, 0, "mark", 1, 0, -3, 1, 1);
        met("a mark below it, beside the slope", 0, 0, "mark", 1, 0, -7, 1, 2);
        met("a mark from below onto it", 0, 1, "mark", 1, 0, -7, 1, 3);
        met("a wedge's tip on the END", 0, 1, "wedge", 1, 0, 1, -4, 1);
        met("a wedge from the END upwards", 0, 1, "wedge", 1, 0, 200, -4, 40);
        met("a wedge that ends there", 0, 1, "wedge", 1, 200, 0, -3, 1);
        met("a wedge that ends above it", 0, 0, "wedge", 1, 200, 0, -2, 1);
    }

    /** The slope from (100, -4) to (112, -14) goes through (106, -9). */
    private static void smallestBars() {
        met("the smallest mark on the slope", 1, 0, "mark", 0, 105, -10, 1, 1);
        met("the smallest mark before the slope", 0, 0, "mark", 0, 104, -10, 1, 1);
        met("the smallest mark under the slope", 0, 0, "mark", 0, 105, -11, 1, 1);
        met("the smallest mark inside", 1, 0, "mark", 0, 125, -10, 1, 1);
        met("the smallest wedge with its tip on the slope", 1, 0, "wedge", 0, 106, 105, -9, 1);
        met("the smallest wedge one before the slope", 0, 0, "wedge", 0, 105, 104, -9, 1);
        met("the smallest wedge with its end on the slope", 1, 0, "wedge", 0, 105, 106, -10, 1);
        met("the smallest wedge under the slope", 0, 0, "wedge", 0, 105, 106, -11, 1);
        met("the smallest wedge inside", 1, 0, "wedge", 0, 125, 126, -10, 1);
    }

    /** BARS do not go from one LINE to the other, however far they reach. */
    private static void barsBeyondTheLine() {
        met("a mark that reaches far behind the end", 1, 0, "mark", 0, 150, -100, 200, 200);
        met("a mark around all of part 0", 1, 0, "mark", 0, 0, -100, 200, 200);
        met("a mark around all of part 1", 0, 1, "mark", 1, 0, -100, 200, 200);
        met("the highest mark", 0, 0, "mark", 0, 100, 200, 200, 200);
        met("the lowest mark, up to 0", 1, 0, "mark", 0, 100, -200, 50, 200);
        met("the lowest mark, up to where the hull begins", 1, 0, "mark", 0, 112, -200, 26, 186);
        met("the lowest mark, one lower", 0, 0, "mark", 0, 112, -200, 26, 185);
        met("the widest wedge of line 0", 1, 0, "wedge", 0, 0, 150, -10, 40);
        met("the widest wedge of line 1", 0, 1, "wedge", 1, 200, 0, -10, 40);
    }

    /** A SLUR of the HULL (100, 4), (110, 13), (130, 13), (140, 4), or the same below, and one MARK. */
    private static int flatMeets(int side, int x, int y, int size) {
        CurveTies ties = new CurveTies();
        ties.line(300);
        ties.note(0, 100, 0, side < 0);
        ties.note(0, 140, 0, side < 0);
        ties.slur(0, 1);
        due.points("slur", ties, 0, 0, 100, 4 * side, 110, 13 * side, 130, 13 * side, 140, 4 * side);
        ties.mark(0, x, side > 0 ? y : -y - size, size, size);
        return ties.candidate(0, 0, 0, 0);
    }

    private static void onSlope(String name, int want, int x, int y, int size) {
        int mirrored = 240 - x - size;
        due.is(name, flatMeets(1, x, y, size), want);
        due.is(name + ", mirrored", flatMeets(1, mirrored, y, size), want);
        due.is(name + ", below", flatMeets(-1, x, y, size), want);
        due.is(name + ", below, mirrored", flatMeets(-1, mirrored, y, size), want);
    }

    /** Between its ENDS no whole numbers are on the slope, and the nearest ones, like (101, 5), are a tenth of 1 beside it. */
    private static void exactly() {
        onSlope("a corner a tenth above the slope", 0, 100, 5, 1);
        onSlope("a corner of a larger one a tenth above it", 0, 94, 5, 7);
        onSlope("a corner a tenth below the slope", 1, 106, 12, 3);
        onSlope("a corner of the smallest one a tenth below it", 1, 108, 12, 1);
        onSlope("a corner on the END", 1, 99, 4, 1);
        onSlope("a corner beside the END", 0, 98, 4, 1);
        onSlope("a corner on POINT 1", 1, 109, 13, 1);
        onSlope("a corner beside POINT 1", 0, 108, 13, 1);
        onSlope("a corner above POINT 1", 0, 109, 14, 1);
    }

    private static int within(int x, int xx, int y) {
        CurveTies ties = new CurveTies();
        ties.line(300);
        ties.note(0, x, y, true);
        ties.note(0, xx, y, true);
        ties.note(0, 100, 0, true);
        ties.note(0, 200, 0, true);
        ties.slur(0, 1);
        ties.slur(2, 3);
        due.is("not the other way", ties.within(1, 0, 0, 0), 0);
        return ties.within(0, 0, 1, 0);
    }

    /** "neither begins before it nor ends behind it": heights are nothing to it. */
    private static void withinByOne() {
        for (int y : new int[] {-100, 0, 100}) {
            due.is("begins one before", within(99, 150, y), 0);
            due.is("begins with it", within(100, 150, y), 1);
            due.is("begins one behind", within(101, 150, y), 1);
            due.is("ends one before", within(150, 199, y), 1);
            due.is("ends with it", within(150, 200, y), 1);
            due.is("ends one behind", within(150, 201, y), 0);
            due.is("begins and ends with it", within(100, 200, y), 1);
            due.is("wholly behind it", within(201, 213, y), 0);
            due.is("wholly before it", within(87, 99, y), 0);
        }
    }

    /** A TIE's ENDS lie 3 inwards of its NOTES: they tell, not the NOTES. */
    private static void tieWithinByOne() {
        int[][] rows = {{96, 150, 0}, {97, 150, 1}, {150, 203, 1}, {150, 204, 0}, {97, 203, 1}, {96, 204, 0}};
        for (int[] row : rows) {
            CurveTies ties = new CurveTies();
            ties.line(300);
            ties.note(0, row[0], 0, true);
            ties.note(0, row[1], 0, true);
            ties.note(0, 100, 0, true);
            ties.note(0, 200, 0, true);
            ties.tie(0, 1);
            ties.slur(2, 3);
            due.is("tie from " + row[0] + " to " + row[1], ties.within(0, 0, 1, 0), row[2]);
        }
    }

    /** The same place on another LINE, and on the other SIDE. */
    private static void notWithinAcross() {
        for (int line = 0; line <= 1; line++) {
            for (int up = 0; up <= 1; up++) {
                CurveTies ties = new CurveTies();
                ties.line(300);
                ties.line(300);
                ties.note(0, 100, 0, true);
                ties.note(0, 200, 0, true);
                ties.note(line, 100, 0, up == 1);
                ties.note(line, 200, 0, up == 1);
                ties.slur(0, 1);
                ties.slur(2, 3);
                int want = line == 0 && up == 1 ? 1 : 0;
                due.is("within one on line " + line + ", stems " + up, ties.within(0, 0, 1, 0), want);
                due.is("met by one on line " + line + ", stems " + up, ties.candidate(1, 0, 0, 1), want);
            }
        }
    }

    /** All PARTS 0 end at the WIDTH, all PARTS 1 begin at 0: the other END tells. */
    private static void withinOverTheEnd() {
        CurveTies ties = new CurveTies();
        ties.line(150);
        ties.line(200);
        ties.line(200);
        int[] froms = {100, 101, 99, 100};
        int[] tos = {60, 59, 61, 60};
        for (int i = 0; i < 4; i++) {
            ties.note(0, froms[i], 0, true);
            ties.note(1, tos[i], 0, true);
            due.is("slur", ties.slur(2 * i, 2 * i + 1), i);
        }
        int[][] want = {{0, 0, 1, 1}, {0, 0, 1, 1}, {0, 0, 0, 0}, {0, 0, 0, 0}};
        for (int curve = 0; curve < 4; curve++) {
            for (int other = 0; other < 4; other++) {
                String name = " of " + curve + " in " + other;
                due.is("parts 0" + name, ties.within(curve, 0, other, 0), want[curve][other]);
                due.is("parts 1" + name, ties.within(curve, 1, other, 1), want[curve][other]);
                due.is("part 0 in part 1" + name, ties.within(curve, 0, other, 1), 0);
                due.is("part 1 in part 0" + name, ties.within(curve, 1, other, 0), 0);
            }
        }
        due.is("to the end of line 1, one part", ties.note(1, 200, 0, true), 8);
        due.is("slur", ties.slur(1, 8), 4);
        ties.note(2, 50, 0, true);
        due.is("slur over the end of line 1", ties.slur(1, 9), 5);
        due.is("the one that ends with the line", ties.within(4, 0, 5, 0), 1);
        due.is("not on the next line", ties.within(4, 0, 5, 1), 0);
    }
}
