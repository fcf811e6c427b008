/** Promises 27 to 32: row, miss, explain, sure, unrow, rows. */
public final class RowsTest {
    private static final Check check = new Check();

    public static void main(String[] args) {
        row();
        miss();
        missAsItIs();
        explain();
        explainLikeOnes();
        sure();
        unrow();
        rows();
        rowsInOrder();
        rowsAsByRow();
        rowsFull();
        check.end();
    }

    private static void row() {
        Script.run(check, "promise 27", """
            row 0 0 0 100 800 0 0 = BAD
            plain 10 0 1 0 = 0
            row 1 0 0 100 800 0 0 = BAD
            row -1 0 0 100 800 0 0 = BAD
            row 0 -1 0 100 800 0 0 = BAD
            row 0 91 0 100 800 0 0 = BAD
            row 0 0 -1 100 800 0 0 = BAD
            row 0 0 360 100 800 0 0 = BAD
            row 0 0 0 29 800 0 0 = BAD
            row 0 0 0 251 800 0 0 = BAD
            row 0 0 0 100 99 0 0 = BAD
            row 0 0 0 100 1001 0 0 = BAD
            row 0 0 0 100 800 -10000 0 = BAD
            row 0 0 0 100 800 10000 0 = BAD
            row 0 0 0 100 800 0 -10000 = BAD
            row 0 0 0 100 800 0 10000 = BAD
            row MIN MAX MIN MAX MIN MAX MIN = BAD
            count 4 = 0
            row 0 0 0 30 100 -9999 -9999 = 0
            row 0 90 359 250 1000 9999 9999 = 1
            *27 row 0 0 0 100 800 0 0
            row 0 0 0 100 800 0 0 = 29
            row 0 0 0 100 800 0 0 = FULL
            row 0 0 0 100 99 0 0 = BAD
            count 4 = 30
            lose 0 true = 1
            unrow = 29
            row 0 0 0 100 800 0 0 = 29   // of a lost one, too
            """);
    }

    /** Weight 10 is on the ground at tick 17, 1700 away. */
    private static void miss() {
        Script.run(check, "promise 28", """
            plain 10 0 1 0 = 0
            row 0 0 0 100 800 0 1700 = 0
            row 0 0 0 100 800 3 1690 = 1
            row 0 0 0 100 800 -3 1710 = 2
            row 0 0 0 100 800 0 -8299 = 3
            row 0 0 0 100 800 0 -8300 = 4
            row 0 0 0 100 800 -9999 -9999 = 5
            miss 0 0 = 0
            miss 0 9 = 0       // of lean 0 no bend is seen
            miss 0 -9 = 0
            miss 1 0 = 13
            miss 2 0 = 13
            miss 3 0 = 9999
            miss 4 0 = 9999
            miss 5 0 = 9999
            miss 0 10 = BAD
            miss 0 -10 = BAD
            miss 6 0 = BAD
            miss -1 0 = BAD
            miss MAX MIN = BAD
            plain 5 0 1 0 = 1
            row 1 0 0 30 800 0 9999 = 6  // it flies 12000
            miss 6 0 = 2001
            row 1 0 180 250 800 0 0 = 7
            miss 7 0 = 9999
            """);
        Script.run(check, "promise 28: 9998 is no more than it is", """
            plain 10 0 1 0 = 0
            row 0 0 0 100 800 0 -8298 = 0
            miss 0 0 = 9998
            """);
    }

    /** By the stick's lifts, the trees and the ring as they are; without wind; not by its own bend. */
    private static void missAsItIs() {
        check.about("promise 28: as things are");
        ThrowersBag bag = new ThrowersBag();
        bag.plain(10, 10, 1, 0);
        bag.bend(0, 4);
        check.due("fly", bag.fly(0, 90, 0, 100, 800, -1), 1);
        bag.row(0, 90, 0, 100, 800, bag.at(17, 0), bag.at(17, 1));
        check.due("miss(0, 4)", bag.miss(0, 4), 0);
        check.is("another bend misses", bag.miss(0, 0) > 0);
        bag.bend(0, -4);
        check.due("miss(0, 4), with another bend of its own", bag.miss(0, 4), 0);
        bag.wind();
        bag.blows(0, 0, 60, 90);
        check.due("miss(0, 4), with a wind about", bag.miss(0, 4), 0);
        bag.tree(bag.at(16, 0), bag.at(16, 1), 1, 3000);
        check.due("miss(0, 4), stopped a tick sooner", bag.miss(0, 4),
                Math.abs(bag.at(17, 0) - bag.at(16, 0)) + Math.abs(bag.at(17, 1) - bag.at(16, 1)));
        Script.run(check, "promise 28: the ring", """
            plain 5 0 1 0 = 0
            row 0 0 0 30 800 0 600 = 0
            miss 0 0 = 9999
            ring 600 = 300
            miss 0 0 = 0
            """);
    }

    /** A bag with a stick that bends, and rows of throws as it really flew with a bend. */
    private static ThrowersBag bent(int bend, int rows) {
        ThrowersBag bag = new ThrowersBag();
        bag.plain(10, 10, 1, 0);
        bag.bend(0, bend);
        for (int i = 0; i < rows; i++) {
            bentRow(bag, i);
        }
        bag.bend(0, 0);
        return bag;
    }

    private static void bentRow(ThrowersBag bag, int i) {
        bag.fly(0, 90, 40 * i, 100, 800, -1);
        bag.row(0, 90, 40 * i, 100, 800, bag.at(bag.ticks(), 0), bag.at(bag.ticks(), 1));
    }

    private static void explain() {
        Script.run(check, "promise 29: wrong ones", """
            explain 0 = BAD-10
            plain 10 0 1 0 = 0
            plain 10 0 1 0 = 1
            explain 2 = BAD-10
            explain -1 = BAD-10
            explain MIN = BAD-10
            explain 0 = NONE-10
            row 1 0 0 100 800 0 0 = 0
            explain 0 = NONE-10
            explain 1 = 0
            """);
        check.about("promise 29");
        for (int bend = -9; bend <= 9; bend++) {
            ThrowersBag bag = bent(bend, 2);
            check.due("explain(0) of rows bent by " + bend, bag.explain(0), bend);
            bag.bend(0, -9);
            check.due("explain(0), whatever its own bend is", bag.explain(0), bend);
            check.due("its own bend stays", bag.bend(0, 0), -9);
            bag.plain(10, 10, 1, 0);
            bag.row(1, 90, 0, 100, 800, -5000, 0);
            check.due("explain(0) beside another stick's row", bag.explain(0), bend);
        }
    }

    private static void explainLikeOnes() {
        Script.run(check, "promise 29: all alike: 0", """
            plain 10 10 1 0 = 0
            row 0 0 0 100 800 0 1000 = 0
            explain 0 = 0
            row 0 90 0 100 800 9999 -9999 = 1   // 9999 for every bend
            explain 0 = 0
            """);
        check.about("promise 29: like ones");
        // One row as bent by b, the same as bent by -b: both miss alike, and all others by more.
        for (int b = 1; b <= 9; b++) {
            ThrowersBag bag = new ThrowersBag();
            bag.plain(10, 0, 1, 0);
            for (int side = -1; side <= 1; side += 2) {
                bag.bend(0, side * b);
                bag.fly(0, 90, 45, 200, 1000, -1);
                bag.row(0, 90, 45, 200, 1000, bag.at(17, 0), bag.at(17, 1));
            }
            int least = sum(bag, b, 2);
            check.due("the sum by " + -b, sum(bag, -b, 2), least);
            int nearest = -b;
            for (int other = -9; other <= 9; other++) {
                if (sum(bag, other, 2) == least && Math.abs(other) < Math.abs(nearest)) {
                    nearest = other;
                }
            }
            check.due("explain(0) between " + -b + " and " + b, bag.explain(0), nearest);
        }
        ThrowersBag bag = new ThrowersBag();
        bag.plain(10, 0, 1, 0);
        for (int side = -1; side <= 1; side += 2) {
            bag.bend(0, side * 6);
            bag.fly(0, 90, 0, 200, 1000, -1);
            bag.row(0, 90, 0, 200, 1000, bag.at(17, 0), bag.at(17, 1));
        }
        check.is("6 and -6 miss alike", sum(bag, 6, 2) == sum(bag, -6, 2));
        check.is("0 misses by more", sum(bag, 0, 2) > sum(bag, 6, 2));
        check.due("explain(0): the lesser", bag.explain(0), -6);
    }

    private static int sum(ThrowersBag bag, int bend, int rows) {
        int sum = 0;
        for (int i = 0; i < rows; i++) {
            sum += bag.miss(i, bend);
        }
        return sum;
    }

    private static void sure() {
        Script.run(check, "promise 30: wrong ones", """
            sure 0 = BAD
            plain 10 0 1 0 = 0
            plain 10 0 1 0 = 1
            sure 2 = BAD
            sure -1 = BAD
            sure MAX = BAD
            sure 0 = NONE
            row 1 0 0 100 800 0 0 = 0
            sure 0 = NONE
            sure 1 = 0
            """);
        check.about("promise 30");
        check.due("sure(0) of one row", bent(5, 1).sure(0), 0);
        check.due("sure(0) of two rows", bent(5, 2).sure(0), 0);
        check.due("sure(0) of three rows", bent(5, 3).sure(0), 1);
        check.due("sure(0) of four rows", bent(-1, 4).sure(0), 1);
        check.due("sure(0) of three rows that are not bent", bent(0, 3).sure(0), 0);
        // A row that no bend changes misses by as much as the others do with bend 0: just twice.
        for (int less = -1; less <= 1; less++) {
            ThrowersBag bag = bent(5, 2);
            int missed = sum(bag, 0, 2);
            bag.row(0, 0, 0, 100, 800, 0, 1700 - missed + less);
            check.due("explain(0)", bag.explain(0), 5);
            check.due("sure(0), " + less + " less than just twice", bag.sure(0), less > 0 ? 1 : 0);
        }
        ThrowersBag bag = bent(5, 2);
        bag.plain(10, 10, 1, 0);
        bag.row(1, 90, 0, 100, 800, 0, 0);
        check.due("sure(0) of two rows and another stick's", bag.sure(0), 0);
    }

    private static void unrow() {
        Script.run(check, "promise 31", """
            unrow = NOT
            plain 10 0 1 0 = 0
            row 0 0 0 100 800 0 1700 = 0
            row 0 0 0 100 800 0 1600 = 1
            unrow = 1
            miss 1 0 = BAD
            miss 0 0 = 0
            row 0 0 0 100 800 0 1500 = 1
            miss 1 0 = 200
            unrow = 1
            unrow = 0
            unrow = NOT
            explain 0 = NONE-10
            """);
    }

    /** A row in items 1 .. 7 of an int sheet of ten. */
    private static final String ROW_IN_A_SHEET = """
        plain 10 0 1 0 = 0
        sheet 0 2 10 = 10
        item 0 2 4 100 = 1
        item 0 2 5 800 = 1
        item 0 2 6 3 = 1
        item 0 2 7 1690 = 1
        """;

    private static void rows() {
        Script.run(check, "promise 32", ROW_IN_A_SHEET + """
            rows 0 2 1 1 = 1
            miss 0 0 = 13
            rows 0 2 1 0 = 1
            rows 0 2 10 0 = 1
            rows 0 2 11 0 = INDEX
            rows 0 2 0 0 = 1
            rows 0 2 -1 0 = INDEX
            rows 0 2 -1 1 = INDEX
            rows 0 2 0 1 = NOT
            rows 0 2 2 1 = NOT
            rows 0 2 3 1 = NOT
            rows 0 2 4 1 = INDEX
            rows 0 2 MAX 1 = INDEX
            rows 0 2 MIN 8 = INDEX
            rows 0 2 1 2 = INDEX
            rows 0 2 1 8 = INDEX
            rows 0 2 1 9 = BAD
            rows 0 2 1 -1 = BAD
            rows 0 2 1 MAX = BAD
            rows 0 2 1 MIN = BAD
            rows -1 2 1 1 = BAD
            rows 4 2 1 1 = BAD
            rows 0 3 1 1 = BAD
            rows 0 -1 1 1 = BAD
            rows 0 1 1 1 = CAST
            rows 0 0 99 1 = CAST
            rows 1 2 99 1 = NULL
            rows 1 3 99 1 = BAD
            rows 1 2 1 9 = BAD
            count 4 = 1
            drop 0 = 10
            rows 0 2 1 1 = NULL
            """);
        Script.run(check, "promise 32: one is not as told", ROW_IN_A_SHEET + """
            item 0 2 1 1 = 1
            rows 0 2 1 1 = NOT    // the stick
            item 0 2 1 -1 = 1
            rows 0 2 1 1 = NOT
            item 0 2 1 0 = 1
            item 0 2 2 91 = 1
            rows 0 2 1 1 = NOT    // the lean
            item 0 2 2 90 = 1
            item 0 2 3 360 = 1
            rows 0 2 1 1 = NOT    // the angle
            item 0 2 3 359 = 1
            item 0 2 4 29 = 1
            rows 0 2 1 1 = NOT    // the strength
            item 0 2 4 250 = 1
            item 0 2 5 99 = 1
            rows 0 2 1 1 = NOT    // the spin
            item 0 2 5 1000 = 1
            item 0 2 6 10000 = 1
            rows 0 2 1 1 = NOT    // x
            item 0 2 6 -9999 = 1
            item 0 2 7 -10000 = 1
            rows 0 2 1 1 = NOT    // y
            item 0 2 7 -9999 = 1
            count 4 = 0
            rows 0 2 1 1 = 1
            """);
    }

    /** Seven items each: stick, lean, angle, strength, spin, x, y; and one wrong row keeps all out. */
    private static void rowsInOrder() {
        check.about("promise 32: eight rows");
        ThrowersBag bag = new ThrowersBag();
        bag.plain(10, 0, 1, 0);
        bag.plain(100, 0, 1, 0);
        bag.sheet(3, 1, 60);
        for (int r = 0; r < 8; r++) {
            int s = r % 2;
            int away = (s == 0 ? 17 : 5) * (30 + r);
            int[] one = {s, 0, 90, 30 + r, 100 + r, away + r, -r};
            for (int c = 0; c < 7; c++) {
                bag.item(3, 1, 4 + 7 * r + c, one[c]);
            }
        }
        bag.item(3, 1, 4 + 7 * 7 + 4, 99);
        check.due("rows(3, 1, 4, 8), the last not as told", bag.rows(3, 1, 4, 8), ThrowersBag.NOT);
        check.due("count(4)", bag.count(4), 0);
        bag.item(3, 1, 4 + 7 * 7 + 4, 107);
        check.due("rows(3, 1, 4, 8)", bag.rows(3, 1, 4, 8), 8);
        for (int r = 0; r < 8; r++) {
            check.due("miss(" + r + ", 0)", bag.miss(r, 0), 2 * r);
        }
        check.due("rows(3, 1, 5, 8)", bag.rows(3, 1, 5, 8), ThrowersBag.INDEX);
    }

    /** Of a stick that turns, every item counts: as by row(), so by rows(). */
    private static void rowsAsByRow() {
        check.about("promise 32: as by row()");
        int[] one = {1, 45, 33, 77, 444, 12, -34};
        ThrowersBag bag = new ThrowersBag();
        bag.plain(10, 0, 1, 0);
        bag.plain(20, 30, 2, 1);
        bag.lift(1, 1, 30);
        bag.row(one[0], one[1], one[2], one[3], one[4], one[5], one[6]);
        bag.sheet(0, 2, 7);
        for (int c = 0; c < 7; c++) {
            bag.item(0, 2, c, one[c]);
        }
        check.due("rows(0, 2, 0, 1)", bag.rows(0, 2, 0, 1), 2);
        check.is("it is not beyond 9999", bag.miss(0, 0) < 9999);
        for (int bend = -9; bend <= 9; bend++) {
            check.due("miss(1, " + bend + ")", bag.miss(1, bend), bag.miss(0, bend));
        }
    }

    private static void rowsFull() {
        Script.run(check, "promise 32: full", ROW_IN_A_SHEET + """
            sheet 1 2 14 = 14
            copy 0 1 1 0 7 = 7
            copy 0 1 1 7 7 = 7
            *28 row 0 0 0 100 800 0 0
            rows 1 2 0 2 = 30
            rows 1 2 0 0 = 30
            rows 1 2 0 1 = FULL
            unrow = 29
            rows 1 2 0 2 = FULL
            count 4 = 29
            item 1 2 13 10000 = 1
            rows 1 2 0 2 = NOT
            rows 1 2 1 2 = INDEX
            rows 1 2 0 1 = 30
            """);
    }
}
