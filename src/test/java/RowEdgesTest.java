/** Promises 27 to 32, sentence by sentence at their edges: row, miss, explain, sure, unrow, rows. */
public final class RowEdgesTest {
    private static final Check check = new Check();

    public static void main(String[] args) {
        row();
        fullOfRows();
        miss();
        missAtMost();
        explain();
        explainLikeOnes();
        sure();
        unrow();
        rowsOfASheet();
        rowsBeyondASheet();
        rowsOfLanes();
        rowsNotAsTold();
        rowsOneShortOfFull();
        rowsNamedFirst();
        check.end();
    }

    /** Weight 10 is on the ground at tick 17, 1700 away. */
    private static final String TWO = """
        plain 10 0 1 0 = 0
        plain 10 10 1 0 = 1
        row 1 90 0 100 800 5 1700 = 0
        """;

    private static void row() {
        Script.run(check, "promise 27: no stick", "row 0 0 0 100 800 0 0 ! BAD");
        Script.run(check, "promise 27: a stick that there is", TWO + "row [0..1] 0 0 100 800 0 0 ! BAD");
        Script.run(check, "promise 27: a stick of nine", "*9 plain 5 0 1 0\nrow [0..8] 0 0 100 800 0 0 ! BAD");
        Script.run(check, "promise 27: lean 0 .. 90", TWO + "row 0 [0..90] 0 100 800 0 0 ! BAD");
        Script.run(check, "promise 27: angle 0 .. 359", TWO + "row 0 0 [0..359] 100 800 0 0 ! BAD");
        Script.run(check, "promise 27: strength 30 .. 250", TWO + "row 0 0 0 [30..250] 800 0 0 ! BAD");
        Script.run(check, "promise 27: spin 100 .. 1000", TWO + "row 0 0 0 100 [100..1000] 0 0 ! BAD");
        Script.run(check, "promise 27: x -9999 .. 9999", TWO + "row 0 0 0 100 800 [-9999..9999] 0 ! BAD");
        Script.run(check, "promise 27: y -9999 .. 9999", TWO + "row 0 0 0 100 800 0 [-9999..9999] ! BAD");
        Script.run(check, "promise 27: of a lost stick, too", TWO + """
            lose 0 true = 1
            row 0 0 0 100 800 0 1700 = 1
            """);
    }

    private static void fullOfRows() {
        Script.run(check, "promise 27: its number; full: 30", TWO + """
            *27 row 0 0 0 100 800 0 0
            row 0 0 0 100 800 0 1699 = 28
            count 4 = 29
            row 0 0 0 100 800 0 1698 = 29
            count 4 = 30
            miss 29 0 = 2
            row 0 0 0 100 800 0 1700 ! FULL
            row 1 0 0 100 800 0 1700 ! FULL
            count 4 = 30
            miss 29 0 = 2
            """);
        Script.run(check, "promise 27: BAD is named ahead of FULL", TWO + """
            *29 row 0 0 0 100 800 0 0
            row 2 0 0 100 800 0 0 ! BAD
            row 0 91 0 100 800 0 0 ! BAD
            row 0 0 360 100 800 0 0 ! BAD
            row 0 0 0 29 800 0 0 ! BAD
            row 0 0 0 100 1001 0 0 ! BAD
            row 0 0 0 100 800 10000 0 ! BAD
            row 0 0 0 100 800 0 -10000 ! BAD
            """);
        Script.run(check, "promise 27: full, then one goes, one comes", TWO + """
            *29 row 0 0 0 100 800 0 0
            row 0 0 0 100 800 0 0 ! FULL
            unrow = 29
            row 0 0 0 100 800 0 1700 = 29
            miss 29 0 = 0
            row 0 0 0 100 800 0 0 ! FULL
            """);
    }

    private static void miss() {
        Script.run(check, "promise 28: no row", "plain 10 0 1 0 = 0\nmiss 0 0 ! BAD");
        Script.run(check, "promise 28: a row that there is", TWO + """
            miss [0..0] 0 ! BAD
            row 0 0 0 100 800 0 0 = 1
            miss [0..1] 0 ! BAD
            """);
        Script.run(check, "promise 28: a row of thirty", TWO + "*29 row 0 0 0 100 800 0 0\nmiss [0..29] 9 ! BAD");
        Script.run(check, "promise 28: a bend -9 .. 9", TWO + "miss 0 [-9..9] ! BAD");
        Script.run(check, "promise 28: without signs: on all sides of where it ends", """
            plain 10 0 1 0 = 0
            row 0 0 0 100 800 0 1700 = 0
            row 0 0 0 100 800 7 1700 = 1
            row 0 0 0 100 800 -7 1700 = 2
            row 0 0 0 100 800 0 1705 = 3
            row 0 0 0 100 800 0 1695 = 4
            row 0 0 0 100 800 7 1695 = 5
            row 0 0 0 100 800 -7 1705 = 6
            miss 0 0 = 0
            miss 1 0 = 7
            miss 2 0 = 7
            miss 3 0 = 5
            miss 4 0 = 5
            miss 5 0 = 12
            miss 6 0 = 12
            """);
    }

    private static void missAtMost() {
        Script.run(check, "promise 28: 9999 at most: 9998, 9999, 10000", """
            plain 10 0 1 0 = 0
            row 0 0 0 100 800 0 -8298 = 0
            row 0 0 0 100 800 0 -8299 = 1
            row 0 0 0 100 800 0 -8300 = 2
            row 0 0 0 100 800 5000 -3298 = 3
            row 0 0 0 100 800 -5000 -3299 = 4
            row 0 0 0 100 800 5000 -3300 = 5
            miss 0 0 = 9998
            miss 1 0 = 9999
            miss 2 0 = 9999
            miss 3 0 = 9998
            miss 4 0 = 9999
            miss 5 0 = 9999
            """);
        Script.run(check, "promise 28: 9999 at most: of the farthest throw", """
            plain 5 0 1 0 = 0
            row 0 0 0 250 800 -9999 -9999 = 0
            miss 0 0 = 9999
            """);
        // Each row counts 9999 at the most: so the near row decides, not the far one.
        ThrowersBag bag = bent(4, 1);
        bag.row(0, 90, 180, 250, 1000, -9999, -9999);
        check.about("promise 29: a sum of misses, 9999 at most each");
        check.due("miss(1, 4)", bag.miss(1, 4), 9999);
        check.due("miss(1, -9)", bag.miss(1, -9), 9999);
        check.due("explain(0)", bag.explain(0), 4);
    }

    /** A bag with rows of throws as its stick really flew with a bend. */
    private static ThrowersBag bent(int bend, int rows) {
        ThrowersBag bag = new ThrowersBag();
        bag.plain(10, 10, 1, 0);
        bag.bend(0, bend);
        for (int i = 0; i < rows; i++) {
            int angle = 40 * i % 360;
            bag.fly(0, 90, angle, 100, 800, -1);
            bag.row(0, 90, angle, 100, 800, bag.at(bag.ticks(), 0), bag.at(bag.ticks(), 1));
        }
        bag.bend(0, 0);
        return bag;
    }

    private static void explain() {
        Script.run(check, "promise 29: a stick that there is", TWO + """
            row 0 0 0 100 800 0 0 = 1
            explain [0..1] ! BAD-10
            """);
        Script.run(check, "promise 29: it has no rows", TWO + """
            explain 0 ! NONE-10
            unrow = 0
            explain 1 ! NONE-10
            explain 2 ! BAD-10
            """);
        check.about("promise 29: -9 and 9 are found, one row is enough");
        check.due("explain(0) of -9", bent(-9, 1).explain(0), -9);
        check.due("explain(0) of 9", bent(9, 1).explain(0), 9);
        check.due("explain(0) of thirty rows of -9", bent(-9, 30).explain(0), -9);
        check.due("explain(0) of thirty rows of 9", bent(9, 30).explain(0), 9);
        check.about("promise 29: NONE less 10 is no bend");
        check.due("NONE - 10", ThrowersBag.NONE - 10, -14);
    }

    /** Rows of two bends: those between them miss alike, or nearly so, and by miss() alone the due one is found. */
    private static void explainLikeOnes() {
        check.about("promise 29: of like ones the one nearest to 0, then the lesser");
        for (int least = -9; least <= 9; least++) {
            for (int greatest = least; greatest <= 9; greatest++) {
                ThrowersBag bag = new ThrowersBag();
                bag.plain(10, 0, 1, 0);
                bag.bend(0, least);
                bag.fly(0, 90, 0, 250, 1000, -1);
                bag.row(0, 90, 0, 250, 1000, bag.at(17, 0), bag.at(17, 1));
                bag.bend(0, greatest);
                bag.fly(0, 90, 0, 250, 1000, -1);
                bag.row(0, 90, 0, 250, 1000, bag.at(17, 0), bag.at(17, 1));
                check.due("explain(0), rows of " + least + " and " + greatest, bag.explain(0), nearest(bag));
            }
        }
        Script.run(check, "promise 29: all bends alike: 0", """
            plain 10 10 1 0 = 0
            row 0 0 0 100 800 0 0 = 0
            explain 0 = 0
            bend 0 -9 = 0
            explain 0 = 0
            """);
        check.about("promise 29: -6 and 6 alike, 0 more: the lesser");
        ThrowersBag bag = new ThrowersBag();
        bag.plain(10, 0, 1, 0);
        for (int side = -6; side <= 6; side += 12) {
            bag.bend(0, side);
            bag.fly(0, 90, 0, 200, 1000, -1);
            bag.row(0, 90, 0, 200, 1000, bag.at(17, 0), bag.at(17, 1));
        }
        check.due("the sum by 6", sum(bag, 6), sum(bag, -6));
        check.is("by 0 it is more", sum(bag, 0) > sum(bag, 6));
        check.due("explain(0)", bag.explain(0), -6);
    }

    private static int sum(ThrowersBag bag, int bend) {
        int sum = 0;
        for (int r = 0; r < bag.count(4); r++) {
            sum += bag.miss(r, bend);
        }
        return sum;
    }

    private static int nearest(ThrowersBag bag) {
        int best = -9;
        for (int bend = -8; bend <= 9; bend++) {
            int more = sum(bag, bend) - sum(bag, best);
            if (more < 0 || (more == 0 && Math.abs(bend) < Math.abs(best))) {
                best = bend;
            }
        }
        return best;
    }

    private static void sure() {
        Script.run(check, "promise 30: a stick that there is", TWO + """
            row 0 0 0 100 800 0 0 = 1
            sure [0..1] ! BAD
            """);
        Script.run(check, "promise 30: it has no rows", TWO + """
            sure 0 ! NONE
            unrow = 0
            sure 1 ! NONE
            sure 2 ! BAD
            """);
        check.about("promise 30: 3 rows or more");
        check.due("sure(0) of 2 rows", bent(5, 2).sure(0), 0);
        check.due("sure(0) of 3 rows", bent(5, 3).sure(0), 1);
        check.due("sure(0) of 30 rows", bent(5, 30).sure(0), 1);
        ThrowersBag bag = bent(5, 2);
        bag.plain(10, 10, 1, 0);
        bag.row(1, 90, 0, 100, 800, 0, 0);
        bag.row(1, 90, 0, 100, 800, 0, 0);
        check.due("sure(0) of 2 rows, and 2 of another", bag.sure(0), 0);
        check.about("promise 30: more than twice as much");
        check.due("sure(0), both 0", bent(0, 3).sure(0), 0);
        for (int less = -1; less <= 1; less++) {
            ThrowersBag near = bent(-3, 2);
            near.row(0, 0, 0, 100, 800, 0, 1700 - sum(near, 0) + less);
            check.due("explain(0)", near.explain(0), -3);
            check.due("the sum by 0 more than twice as much", sum(near, 0) - 2 * sum(near, -3), less);
            check.due("sure(0)", near.sure(0), less > 0 ? 1 : 0);
        }
    }

    private static void unrow() {
        Script.run(check, "promise 31: there is none", """
            unrow ! NOT
            plain 10 0 1 0 = 0
            unrow ! NOT
            row 0 0 0 100 800 0 0 = 0
            unrow = 0
            unrow ! NOT
            count 4 = 0
            """);
        Script.run(check, "promise 31: the last one goes, from thirty on", """
            plain 10 0 1 0 = 0
            *29 row 0 0 0 100 800 0 1700
            row 0 0 0 100 800 0 1600 = 29
            miss 29 0 = 100
            unrow = 29
            miss 29 0 ! BAD
            miss 28 0 = 0
            count 4 = 29
            unrow = 28
            """);
    }

    /** Items 1 .. 7 of a sheet of ten are a row, as told, that is missed by 13. */
    private static final String SHEET = """
        plain 10 0 1 0 = 0
        sheet 0 2 10 = 10
        item 0 2 4 100 = 1
        item 0 2 5 800 = 1
        item 0 2 6 3 = 1
        item 0 2 7 1690 = 1
        """;

    private static void rowsOfASheet() {
        Script.run(check, "promise 32: a sheet 0 .. 3", """
            plain 10 0 1 0 = 0
            sheet 0 2 7 = 7
            sheet 3 2 7 = 7
            rows [0..3] 2 0 1 ! BAD
            """);
        Script.run(check, "promise 32: a lane 0 .. 2", SHEET + "rows 0 [0..2] 1 1 ! BAD");
        Script.run(check, "promise 32: n 0 .. 8", SHEET + "rows 0 2 1 [0..8] ! BAD");
        Script.run(check, "promise 32: a sheet that holds nothing", SHEET + """
            rows 1 2 0 0 ! NULL
            rows 1 2 1 1 ! NULL
            rows 3 0 0 0 ! NULL
            drop 0 = 10
            rows 0 2 1 1 ! NULL
            """);
        Script.run(check, "promise 32: another lane", SHEET + """
            rows 0 0 1 1 ! CAST
            rows 0 1 1 1 ! CAST
            rows 0 0 0 0 ! CAST
            sheet 1 0 60 = 60
            rows 1 1 0 1 ! CAST
            rows 1 2 0 1 ! CAST
            sheet 2 1 60 = 60
            rows 2 0 0 1 ! CAST
            rows 2 2 0 1 ! CAST
            """);
        Script.run(check, "promise 32: how many there are", SHEET + """
            rows 0 2 1 1 = 1
            rows 0 2 1 1 = 2
            miss 1 0 = 13
            rows 0 2 1 0 = 2
            """);
    }

    private static void rowsBeyondASheet() {
        Script.run(check, "promise 32: items of the sheet: one row", SHEET + """
            rows 0 2 -1 1 ! INDEX
            rows 0 2 MIN 1 ! INDEX
            rows 0 2 4 1 ! INDEX
            rows 0 2 10 1 ! INDEX
            rows 0 2 MAX 1 ! INDEX
            rows 0 2 1 2 ! INDEX
            rows 0 2 0 8 ! INDEX
            rows 0 2 3 1 ! NOT
            """);
        Script.run(check, "promise 32: items of the sheet: the last seven", SHEET + """
            copy 0 1 0 3 7 = 7
            rows 0 2 3 1 = 1
            rows 0 2 4 1 ! INDEX
            miss 0 0 = 13
            """);
        Script.run(check, "promise 32: items of the sheet: no rows at all", SHEET + """
            rows 0 2 0 0 = 0
            rows 0 2 10 0 = 0
            rows 0 2 11 0 ! INDEX
            rows 0 2 -1 0 ! INDEX
            rows 0 2 MAX 0 ! INDEX
            rows 0 2 MIN 0 ! INDEX
            sheet 1 2 0 = 0
            rows 1 2 0 0 = 0
            rows 1 2 1 0 ! INDEX
            rows 1 2 0 1 ! INDEX
            sheet 1 2 6 = 6
            rows 1 2 0 1 ! INDEX
            """);
        check.about("promise 32: eight rows, from item 4 of 60 on");
        ThrowersBag bag = eight(2, 4);
        check.due("rows(0, 2, 5, 8)", bag.rows(0, 2, 5, 8), ThrowersBag.INDEX);
        check.due("rows(0, 2, 4, 9)", bag.rows(0, 2, 4, 9), ThrowersBag.BAD);
        check.due("count(4)", bag.count(4), 0);
        check.due("rows(0, 2, 4, 8)", bag.rows(0, 2, 4, 8), 8);
        for (int r = 0; r < 8; r++) {
            check.due("miss(" + r + ", 0)", bag.miss(r, 0), r);
        }
        check.due("rows(0, 2, 11, 7)", bag.rows(0, 2, 11, 7), 15);
        check.due("miss(8, 0)", bag.miss(8, 0), 1);
    }

    /** Eight rows in sheet 0, the r-th of which is missed by r: heavy, so that bytes can hold where it ends. */
    private static ThrowersBag eight(int lane, int from) {
        ThrowersBag bag = new ThrowersBag();
        bag.plain(100, 0, 1, 0);
        bag.wind();
        bag.sheet(0, lane, 60);
        for (int r = 0; r < 8; r++) {
            int[] one = {0, 0, 0, 30, 100, lane == 0 ? 0 : r, lane == 0 ? 120 - r : 150};
            for (int c = 0; c < 7; c++) {
                bag.item(0, lane, from + 7 * r + c, one[c]);
            }
        }
        return bag;
    }

    private static void rowsOfLanes() {
        check.about("promise 32: from every lane");
        for (int lane = 0; lane < 3; lane++) {
            ThrowersBag bag = eight(lane, 0);
            check.due("rows(0, " + lane + ", 0, 8)", bag.rows(0, lane, 0, 8), 8);
            for (int r = 0; r < 8; r++) {
                check.due("miss(" + r + ", 0), lane " + lane, bag.miss(r, 0), lane == 0 ? 30 + r : r);
            }
            check.due("rows(0, " + lane + ", 53, 1)", bag.rows(0, lane, 53, 1), ThrowersBag.NOT);
            check.due("rows(0, " + lane + ", 54, 1)", bag.rows(0, lane, 54, 1), ThrowersBag.INDEX);
        }
    }

    /** Each of the seven items one less than the least and one more than the greatest, then just within. */
    private static void rowsNotAsTold() {
        int[] least = {0, 0, 0, 30, 100, -9999, -9999};
        int[] greatest = {1, 90, 359, 250, 1000, 9999, 9999};
        for (int c = 0; c < 7; c++) {
            StringBuilder text = new StringBuilder("*2 plain 10 0 1 0\nsheet 0 2 14 = 14\n");
            for (int k = 0; k < 14; k++) {
                text.append("item 0 2 " + k + " " + least[k % 7] + " = 1\n");
            }
            int[] wrong = {least[c] - 1, greatest[c] + 1, Integer.MIN_VALUE, Integer.MAX_VALUE};
            for (int v : wrong) {
                text.append("item 0 2 " + c + " " + v + " = 1\nrows 0 2 0 1 ! NOT\nrows 0 2 0 2 ! NOT\n");
            }
            text.append("item 0 2 " + c + " " + greatest[c] + " = 1\nrows 0 2 0 1 = 1\n");
            for (int v : wrong) {
                text.append("item 0 2 " + (7 + c) + " " + v + " = 1\nrows 0 2 7 1 ! NOT\nrows 0 2 0 2 ! NOT\n");
            }
            text.append("count 4 = 1\nitem 0 2 " + (7 + c) + " " + least[c] + " = 1\nrows 0 2 0 2 = 3\n");
            Script.run(check, "promise 32: one is not as told: item " + c, text.toString());
        }
    }

    private static void rowsOneShortOfFull() {
        String two = SHEET + """
            sheet 1 2 14 = 14
            copy 0 1 1 0 7 = 7
            copy 0 1 1 7 7 = 7
            """;
        Script.run(check, "promise 32: full: two more than 28, than 29, than 30", two + """
            *28 row 0 0 0 100 800 0 0
            rows 1 2 0 2 = 30
            miss 29 0 = 13
            rows 1 2 0 2 ! FULL
            rows 1 2 0 1 ! FULL
            unrow = 29
            rows 1 2 0 2 ! FULL
            count 4 = 29
            rows 1 2 0 1 = 30
            """);
        Script.run(check, "promise 32: full: no rows come to thirty", two + """
            *30 row 0 0 0 100 800 0 0
            rows 1 2 0 0 = 30
            rows 1 2 14 0 = 30
            """);
        check.about("promise 32: full: eight more than 22, than 23");
        ThrowersBag bag = eight(2, 0);
        for (int r = 0; r < 23; r++) {
            bag.row(0, 0, 0, 30, 100, 0, 0);
        }
        check.due("rows(0, 2, 0, 8) to 23", bag.rows(0, 2, 0, 8), ThrowersBag.FULL);
        check.due("count(4)", bag.count(4), 23);
        check.due("unrow()", bag.unrow(), 22);
        check.due("rows(0, 2, 0, 8) to 22", bag.rows(0, 2, 0, 8), 30);
        check.due("miss(29, 0)", bag.miss(29, 0), 7);
    }

    private static void rowsNamedFirst() {
        Script.run(check, "promise 32: of several the first: BAD, NULL, CAST, INDEX, NOT, FULL", SHEET + """
            *30 row 0 0 0 100 800 0 0
            item 0 2 1 1 = 1
            rows 1 2 -1 9 ! BAD
            rows 1 3 -1 1 ! BAD
            rows 4 2 -1 1 ! BAD
            rows 1 2 -1 1 ! NULL
            rows 0 1 -1 1 ! CAST
            rows 0 2 -1 1 ! INDEX
            rows 0 2 4 1 ! INDEX
            rows 0 2 1 1 ! NOT
            item 0 2 1 0 = 1
            rows 0 2 1 1 ! FULL
            rows 0 2 1 9 ! BAD
            rows 0 1 1 1 ! CAST
            rows 0 2 1 2 ! INDEX
            """);
    }
}
