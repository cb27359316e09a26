/** Chapter 3 and promise 8: what is chosen, of like ones the first, and if all MEET something the last one. */
public final class ChoiceTest {
    private static final Due due = new Due();

    public static void main(String[] args) {
        leastOfTheFree();
        lastOfATie();
        allMeetNotTheSame();
        oneLeft();
        partsOneByOne();
        backFromColliding();
        toldLaterChangesNothing();
        asTheyCame();
        due.end();
    }

    /**
     * A SLUR so steep that its POINT 1 lies beyond the line of its ENDS: there a higher arch and farther ENDS both
     * leave room. Each row: x, y of a MARK of 3 by 3; the chosen candidate; and of all 24 the free ones.
     */
    private static void leastOfTheFree() {
        steep(15, -120, 0, "........ ........ ........");
        steep(17, 105, 0, "........ ######## ........");
        steep(18, 86, 1, "#....... ........ ........");
        steep(19, 74, 8, "##...... ........ ........");
        steep(20, 60, 2, "##...... #....... ........");
        steep(17, 101, 8, "######## ........ ........");
        steep(18, 90, 9, "######## #....... ........");
        steep(19, 78, 10, "######## ##...... ........");
        steep(20, 64, 10, "######## ##...... #.......");
        steep(18, 92, 16, "######## ######## ........");
        steep(18, 94, 17, "######## ######## #.......");
        steep(19, 82, 18, "######## ######## ##......");
        steep(18, 96, 23, "######## ######## ########");
    }

    private static void steep(int x, int y, int chosen, String free) {
        steepSlur("above, told at the end", false, true, x, y, chosen, free);
        steepSlur("above, chosen anew", false, false, x, y, chosen, free);
        steepSlur("below, told at the end", true, true, x, -y - 3, chosen, free);
        steepSlur("below, chosen anew", true, false, x, -y - 3, chosen, free);
    }

    private static void steepSlur(String name, boolean below, boolean markFirst, int x, int y, int chosen, String free) {
        CurveTies ties = new CurveTies();
        ties.line(100);
        ties.note(0, 20, below ? -100 : 100, below);
        ties.note(0, 35, below ? 100 : -100, below);
        if (markFirst) {
            due.is(name + ": mark", ties.mark(0, x, y, 3, 3), 1);
            due.is(name + ": slur", ties.slur(0, 1), 0);
            due.is(name + ": again", ties.again(), 0);
        } else {
            due.is(name + ": slur", ties.slur(0, 1), 0);
            due.is(name + ": mark", ties.mark(0, x, y, 3, 3), 1);
            due.is(name + ": still the first one", ties.part(0, 0, 1), 0);
            due.is(name + ": again", ties.again(), chosen == 0 ? 0 : 1);
        }
        String of = name + ", mark at " + x + ", " + y;
        for (int k = 0; k < 24; k++) {
            int met = free.charAt(k + k / 8) == '#' ? 1 : 0;
            due.is(of + ": met by " + k, ties.candidate(0, 0, k, 0), met);
        }
        due.is(of + ": chosen", ties.part(0, 0, 1), chosen);
        due.is(of + ": collides", ties.part(0, 0, 3), free.contains(".") ? 0 : 1);
        due.is(of + ": its BADNESS", ties.part(0, 0, 2), ties.candidate(0, 0, chosen, 2));
        due.is(of + ": count(5)", ties.count(5), free.contains(".") ? 0 : 1);
    }

    /** A TIE's ENDS can't go farther: its 8 candidates all MEET what the first one MEETS. */
    private static void lastOfATie() {
        for (int higher = 0; higher <= 1; higher++) {
            CurveTies ties = new CurveTies();
            ties.line(100);
            ties.note(0, 20, 0, false);
            ties.note(0, 60, 0, false);
            // the tie goes from (23, 2) to (57, 2), with its ARCH to 10
            ties.mark(0, 38, 10 + higher, 4, 4);
            ties.tie(0, 1);
            due.is("candidate of the tie", ties.part(0, 0, 1), higher == 1 ? 0 : 7);
            due.is("BADNESS of the tie", ties.part(0, 0, 2), higher == 1 ? 0 : 784);
            due.is("it collides", ties.part(0, 0, 3), 1 - higher);
            due.is("count(5)", ties.count(5), 1 - higher);
            due.is("POINT 1 of the tie", ties.point(0, 0, 1, 1), higher == 1 ? 10 : 38);
            due.is("its END stays", ties.point(0, 0, 0, 1), 2);
        }
    }

    /** A SLUR above from (100, 4) to (180, 4), its ARCH 14, with a MARK on its lower edge and one over it. */
    private static CurveTies between(int over) {
        CurveTies ties = new CurveTies();
        ties.line(300);
        ties.note(0, 100, 0, false);
        ties.note(0, 180, 0, false);
        ties.mark(0, 130, 0, 10, 4);
        ties.mark(0, 130, over, 10, 50);
        ties.slur(0, 1);
        return ties;
    }

    private static void allMeetNotTheSame() {
        CurveTies ties = between(22);
        due.is("0 meets the lower one", ties.candidate(0, 0, 0, 0), 1);
        due.is("1 meets both", ties.candidate(0, 0, 1, 0), 2);
        due.is("8 meets the upper one", ties.candidate(0, 0, 8, 0), 1);
        due.is("23 meets the upper one", ties.candidate(0, 0, 23, 0), 1);
        due.is("the last one", ties.part(0, 0, 1), 23);
        due.is("it collides", ties.part(0, 0, 3), 1);
    }

    private static void oneLeft() {
        CurveTies ties = between(23);
        due.is("8 is free", ties.candidate(0, 0, 8, 0), 0);
        due.is("9 is not", ties.candidate(0, 0, 9, 0), 1);
        due.is("16 is not", ties.candidate(0, 0, 16, 0), 1);
        due.is("the only one", ties.part(0, 0, 1), 8);
        due.is("it does not collide", ties.part(0, 0, 3), 0);
        due.is("again", ties.again(), 0);
    }

    /** Each PART is chosen and counted for itself. */
    private static void partsOneByOne() {
        CurveTies ties = new CurveTies();
        ties.line(200);
        ties.line(200);
        ties.note(0, 100, 0, false);
        ties.note(1, 100, 0, false);
        ties.slur(0, 1);
        due.is("none collides", ties.count(5), 0);
        due.is("none is changed", ties.again(), 0);
        ties.mark(1, 50, 0, 5, 100);
        due.is("what is told later collides only by again()", ties.count(5), 0);
        due.is("one is changed", ties.again(), 1);
        due.is("part 0 stays", ties.part(0, 0, 1), 0);
        due.is("part 1 is the last one", ties.part(0, 1, 1), 23);
        due.is("one collides", ties.count(5), 1);
        ties.mark(0, 150, 0, 5, 100);
        due.is("the other one is changed", ties.again(), 1);
        due.is("both collide", ties.count(5), 2);
        due.is("none is changed any more", ties.again(), 0);
    }

    /** The inner HULL lies on the outer one's upper edge; when it goes up, the outer one is free again. */
    private static void backFromColliding() {
        CurveTies ties = new CurveTies();
        ties.line(300);
        ties.note(0, 100, 0, false);
        ties.note(0, 180, 0, false);
        ties.note(0, 130, 14, false);
        ties.note(0, 150, 14, false);
        ties.slur(2, 3);
        ties.slur(0, 1);
        due.is("the outer one meets the inner one", ties.candidate(1, 0, 0, 1), 1);
        due.is("the last one", ties.part(1, 0, 1), 23);
        due.is("one collides", ties.count(5), 1);
        ties.mark(0, 138, 20, 2, 1);
        due.is("again: both", ties.again(), 2);
        due.is("the inner one went up", ties.part(0, 0, 1), 8);
        due.is("the outer one came back", ties.part(1, 0, 1), 0);
        due.is("its BADNESS", ties.part(1, 0, 2), 0);
        due.is("it collides no more", ties.part(1, 0, 3), 0);
        due.is("none collides", ties.count(5), 0);
        due.is("again: none", ties.again(), 0);
    }

    private static void toldLaterChangesNothing() {
        CurveTies ties = new CurveTies();
        Piece.tellSmall(ties);
        ties.line(300);
        for (int x = 0; x <= 140; x += 20) {
            ties.note(0, x, -50, false);
            ties.note(1, x, 50, false);
        }
        ties.mark(0, 20, -100, 100, 200);
        ties.mark(1, 0, -100, 100, 200);
        ties.wedge(0, 0, 150, 0, 40);
        CurveTies untold = Piece.small();
        for (int curve = 0; curve < 4; curve++) {
            for (int what = 0; what <= 4; what++) {
                due.is("curve(" + curve + ", " + what + ")", ties.curve(curve, what), untold.curve(curve, what));
            }
            for (int what = 0; what <= 5; what++) {
                due.is("part(" + curve + ", 0, " + what + ")", ties.part(curve, 0, what), untold.part(curve, 0, what));
            }
            for (int i = 0; i <= 3; i++) {
                due.is("height " + i + " of " + curve, ties.point(curve, 0, i, 1), untold.point(curve, 0, i, 1));
            }
        }
        due.is("again: all but the one that was the last already", ties.again(), 5);
        for (int curve = 0; curve < 4; curve++) {
            due.is("SIDE of " + curve + " stays", ties.curve(curve, 2), untold.curve(curve, 2));
            int e = ties.part(curve, 0, 1) / 8;
            int e0 = untold.part(curve, 0, 1) / 8;
            int farther = 4 * (e - e0) * ties.curve(curve, 2);
            due.is("END of " + curve + " but for 4 e", ties.point(curve, 0, 0, 1), untold.point(curve, 0, 0, 1) + farther);
        }
    }

    /** Of three in one another the middle one gives way to the inner one, and the outer one to where that lies now. */
    private static void asTheyCame() {
        CurveTies ties = new CurveTies();
        ties.line(400);
        int[] heights = {0, 8, 16};
        for (int i = 0; i < 3; i++) {
            ties.note(0, 150 - 20 * i, heights[i], false);
            ties.note(0, 170 + 20 * i, heights[i], false);
        }
        for (int i = 0; i < 3; i++) {
            due.is("slur", ties.slur(2 * i, 2 * i + 1), i);
        }
        due.points("inner", ties, 0, 0, 150, 4, 155, 10, 165, 10, 170, 4);
        due.points("middle", ties, 1, 0, 130, 12, 145, 23, 175, 23, 190, 12);
        due.points("outer", ties, 2, 0, 110, 24, 135, 40, 185, 40, 210, 24);
        due.is("the outer one goes 4 farther", ties.part(2, 0, 1), 8);
        ties.mark(0, 155, 3, 5, 2);
        due.is("again: all three", ties.again(), 3);
        due.is("inner", ties.part(0, 0, 1), 8);
        due.is("middle", ties.part(1, 0, 1), 8);
        due.is("outer", ties.part(2, 0, 1), 16);
        due.is("none collides", ties.count(5), 0);
        due.is("again: none", ties.again(), 0);
    }
}
