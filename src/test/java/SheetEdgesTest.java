/** Promises 39 to 42, sentence by sentence at their edges: sheet, drop, item, copy. */
public final class SheetEdgesTest {
    private static final Check check = new Check();

    public static void main(String[] args) {
        sheet();
        sheetIsNew();
        drop();
        item();
        itemNamedFirst();
        lowestBits();
        copy();
        copyBeyond();
        copyNamedFirst();
        copyMoves();
        check.end();
    }

    /** Sheet 0 ten ints, sheet 1 ten bytes, sheet 2 ten shorts, some of them told; sheet 3 nothing. */
    private static final String SHEETS = """
        plain 100 0 1 0 = 0
        sheet 0 2 10 = 10
        item 0 2 0 1001 = 1
        item 0 2 9 1009 = 1
        sheet 1 0 10 = 10
        item 1 0 0 101 = 1
        item 1 0 9 109 = 1
        sheet 2 1 10 = 10
        item 2 1 0 2001 = 1
        item 2 1 9 2009 = 1
        """;

    private static void sheet() {
        Script.run(check, "promise 39: a sheet 0 .. 3", SHEETS + "sheet [0..3] 1 5 ! BAD");
        Script.run(check, "promise 39: a lane 0 .. 2", SHEETS + "sheet 0 [0..2] 5 ! BAD");
        Script.run(check, "promise 39: n above 60", SHEETS + """
            sheet 0 2 0..60] ! BAD
            sheet 1 0 0..60] ! BAD
            sheet 2 1 0..60] ! BAD
            sheet 3 0 0..60] ! BAD
            """);
        Script.run(check, "promise 39: n below 0", SHEETS + """
            sheet 0 2 [0..60 ! SIZE
            sheet 1 0 [0..60 ! SIZE
            sheet 2 1 [0..60 ! SIZE
            sheet 3 0 [0..60 ! SIZE
            """);
        Script.run(check, "promise 39: BAD is named ahead of SIZE", SHEETS + """
            sheet 4 2 -1 ! BAD
            sheet -1 2 -1 ! BAD
            sheet 0 3 -1 ! BAD
            sheet 0 -1 -1 ! BAD
            sheet 0 3 MIN ! BAD
            """);
        Script.run(check, "promise 39: n, of every lane", """
            sheet 0 0 0 = 0
            sheet 0 1 1 = 1
            sheet 0 2 59 = 59
            sheet 3 0 60 = 60
            sheet 3 1 60 = 60
            sheet 3 2 60 = 60
            item 3 2 59 1 = 1
            item 3 2 60 1 ! INDEX
            """);
    }

    private static void sheetIsNew() {
        Script.run(check, "promise 39: a new row: 0 at first", """
            plain 100 0 1 0 = 0
            sheet 0 2 7 = 7
            item 0 2 3 30 = 1
            item 0 2 4 100 = 1
            item 0 2 5 9 = 1
            item 0 2 6 150 = 1
            rows 0 2 0 1 = 1
            miss 0 0 = 9
            sheet 0 2 7 = 7
            rows 0 2 0 1 ! NOT     // strength 0
            item 0 2 3 30 = 1
            rows 0 2 0 1 ! NOT     // spin 0
            item 0 2 4 100 = 1
            rows 0 2 0 1 = 2
            miss 1 0 = 150         // x, y 0
            """);
        Script.run(check, "promise 39: a new row: shorter, longer, of another lane", SHEETS + """
            sheet 0 2 9 = 9
            item 0 2 9 1 ! INDEX
            item 0 2 8 1 = 1
            sheet 0 2 11 = 11
            item 0 2 10 1 = 1
            sheet 0 0 11 = 11
            item 0 2 10 1 ! CAST
            item 0 0 10 1 = 1
            drop 0 = 11
            """);
        Script.run(check, "promise 39: of no items it is a row, too", """
            sheet 0 1 0 = 0
            item 0 1 0 1 ! INDEX
            item 0 0 0 1 ! CAST
            drop 0 = 0
            drop 0 ! NULL
            item 0 1 0 1 ! NULL
            """);
    }

    private static void drop() {
        Script.run(check, "promise 40: a sheet 0 .. 3", """
            sheet 0 0 1 = 1
            sheet 1 1 2 = 2
            sheet 2 2 3 = 3
            sheet 3 0 4 = 4
            drop [0..3] ! BAD
            """);
        Script.run(check, "promise 40: it holds nothing", SHEETS + """
            drop 3 ! NULL
            drop 0 = 10
            drop 0 ! NULL
            drop 1 = 10
            drop 1 ! NULL
            drop 2 = 10
            drop 2 ! NULL
            """);
        Script.run(check, "promise 40: how many items it had: 0, 1, 60", """
            sheet 0 0 0 = 0
            drop 0 = 0
            sheet 0 2 1 = 1
            drop 0 = 1
            sheet 0 1 60 = 60
            drop 0 = 60
            drop 0 ! NULL
            """);
        Script.run(check, "promise 40: dropped, then held again: 0 at first", """
            plain 100 0 1 0 = 0
            sheet 0 2 7 = 7
            item 0 2 3 30 = 1
            item 0 2 4 100 = 1
            rows 0 2 0 1 = 1
            drop 0 = 7
            rows 0 2 0 1 ! NULL
            sheet 0 2 7 = 7
            rows 0 2 0 1 ! NOT
            """);
    }

    private static void item() {
        Script.run(check, "promise 41: a sheet 0 .. 3", """
            *1 sheet 0 2 5
            *1 sheet 1 2 5
            *1 sheet 2 2 5
            *1 sheet 3 2 5
            item [0..3] 2 4 7 ! BAD
            """);
        Script.run(check, "promise 41: a lane 0 .. 2", SHEETS + """
            item 0 [0..2] 0 7 ! BAD
            item 1 [0..2] 0 7 ! BAD
            item 2 [0..2] 0 7 ! BAD
            """);
        Script.run(check, "promise 41: item i", SHEETS + """
            item 0 2 [0..9] 7 ! INDEX
            item 1 0 [0..9] 7 ! INDEX
            item 2 1 [0..9] 7 ! INDEX
            sheet 3 1 60 = 60
            item 3 1 [0..59] 7 ! INDEX
            sheet 3 1 1 = 1
            item 3 1 [0..0] 7 ! INDEX
            """);
        Script.run(check, "promise 41: a sheet that holds nothing", SHEETS + """
            item 3 0 0 7 ! NULL
            item 3 2 9 7 ! NULL
            """);
        Script.run(check, "promise 41: another lane", SHEETS + """
            item 0 0 0 7 ! CAST
            item 0 1 0 7 ! CAST
            item 1 1 0 7 ! CAST
            item 1 2 0 7 ! CAST
            item 2 0 0 7 ! CAST
            item 2 2 0 7 ! CAST
            """);
    }

    private static void itemNamedFirst() {
        Script.run(check, "promise 41: of several the first: BAD, NULL, CAST, INDEX", SHEETS + """
            item 4 3 -1 7 ! BAD
            item 3 3 -1 7 ! BAD
            item 3 -1 99 7 ! BAD
            item 0 3 -1 7 ! BAD
            item 3 2 -1 7 ! NULL
            item 3 2 60 7 ! NULL
            item 0 1 -1 7 ! CAST
            item 0 1 10 7 ! CAST
            item 0 2 10 7 ! INDEX
            """);
    }

    private static void lowestBits() {
        check.about("promise 41: its lowest bits");
        int[][] bytes = {
            {0, 0}, {1, 1}, {-1, -1}, {127, 127}, {128, -128}, {129, -127}, {255, -1}, {256, 0}, {257, 1}, {-128, -128},
            {-129, 127}, {-256, 0}, {-257, -1}, {65535, -1}, {65536, 0}, {Integer.MAX_VALUE, -1}, {Integer.MIN_VALUE, 0}};
        int[][] shorts = {
            {0, 0}, {128, 128}, {-129, -129}, {256, 256}, {9999, 9999}, {-9999, -9999}, {55537, -9999}, {-55537, 9999},
            {65535, -1}, {65536, 0}, {65537, 1}, {-65536, 0}, {-65537, -1}, {131071, -1}, {Integer.MAX_VALUE, -1},
            {Integer.MIN_VALUE, 0}};
        int[][] ints = {{0, 0}, {128, 128}, {256, 256}, {-129, -129}, {9999, 9999}, {-9999, -9999}};
        for (int[] one : bytes) {
            check.due("a byte of " + one[0], held(0, one[0]), one[1]);
        }
        for (int[] one : shorts) {
            check.due("a short of " + one[0], held(1, one[0]), one[1]);
        }
        for (int[] one : ints) {
            check.due("an int of " + one[0], held(2, one[0]), one[1]);
        }
        // Beyond x of a row: what is left of them is not as told.
        int[][] beyond = {{1, 10000}, {1, 32767}, {1, 32768}, {1, -32768}, {1, -32769}, {1, 55536}, {2, 10000}, {2, 65536},
            {2, -65536}, {2, 55537}, {2, Integer.MAX_VALUE}, {2, Integer.MIN_VALUE}, {2, 256 * 256 * 256}};
        for (int[] one : beyond) {
            check.due("lane " + one[0] + ", " + one[1], held(one[0], one[1]), NOT_AS_TOLD);
        }
    }

    private static final int NOT_AS_TOLD = 99999;

    /** What an item is, by the misses of rows that have it as their x: weight 100 ends 150 ahead, or to the right. */
    private static int held(int lane, int v) {
        int ahead = lane == 0 ? 127 : 150;
        ThrowersBag bag = new ThrowersBag();
        bag.plain(100, 0, 1, 0);
        bag.sheet(0, lane, 7);
        bag.item(0, lane, 3, 30);
        bag.item(0, lane, 4, 100);
        check.due("item(0, " + lane + ", 5, " + v + ")", bag.item(0, lane, 5, v), 1);
        bag.item(0, lane, 6, ahead);
        int rows = bag.rows(0, lane, 0, 1);
        if (rows != 1) {
            return rows == ThrowersBag.NOT ? NOT_AS_TOLD : rows;
        }
        bag.item(0, lane, 2, 90);
        bag.item(0, lane, 6, 0);
        check.due("rows to the right", bag.rows(0, lane, 0, 1), 2);
        int far = bag.miss(0, 0) - (150 - ahead);
        return bag.miss(1, 0) == Math.abs(far - 150) ? far : -far;
    }

    private static void copy() {
        String all = """
            plain 100 0 1 0 = 0
            sheet 0 2 10 = 10
            sheet 1 2 10 = 10
            sheet 2 2 10 = 10
            sheet 3 2 10 = 10
            item 0 2 0 1001 = 1
            item 3 2 0 1003 = 1
            """;
        Script.run(check, "promise 42: from a sheet 0 .. 3", all + "copy [0..3] 0 1 3 5 ! BAD");
        Script.run(check, "promise 42: to a sheet 0 .. 3", all + "copy 0 0 [0..3] 3 5 ! BAD");
        Script.run(check, "promise 42: NULL (either)", SHEETS + """
            copy 3 0 0 0 1 ! NULL
            copy 0 0 3 0 1 ! NULL
            copy 3 0 3 0 1 ! NULL
            copy 3 0 0 0 0 ! NULL
            copy 0 0 3 0 0 ! NULL
            """);
        Script.run(check, "promise 42: of unlike lanes", SHEETS + """
            copy 0 0 1 0 1 ! CAST
            copy 1 0 0 0 1 ! CAST
            copy 0 0 2 0 1 ! CAST
            copy 2 0 0 0 1 ! CAST
            copy 1 0 2 0 1 ! CAST
            copy 2 0 1 0 1 ! CAST
            copy 0 0 1 0 0 ! CAST
            """);
        Script.run(check, "promise 42: n: none, one, all of sixty", """
            sheet 0 0 60 = 60
            sheet 1 0 60 = 60
            copy 0 0 1 0 60 = 60
            copy 0 0 0 0 60 = 60
            copy 0 59 1 59 1 = 1
            copy 0 60 1 60 0 = 0
            copy 0 0 1 0 61 ! INDEX
            """);
    }

    /** Sheets of ten and of five ints. */
    private static void copyBeyond() {
        String unlike = """
            plain 100 0 1 0 = 0
            sheet 0 2 10 = 10
            sheet 1 2 5 = 5
            item 0 2 0 1000 = 1
            item 0 2 5 1005 = 1
            item 0 2 9 1009 = 1
            item 1 2 0 2000 = 1
            item 1 2 4 2004 = 1
            """;
        Script.run(check, "promise 42: from i on", unlike + """
            copy 0 [0..5] 1 0 5 ! INDEX
            copy 0 [0..9] 1 0 1 ! INDEX
            copy 0 [0..10] 1 0 0 ! INDEX
            """);
        Script.run(check, "promise 42: from j on", unlike + """
            copy 0 0 1 [0..0] 5 ! INDEX
            copy 0 0 1 [0..4] 1 ! INDEX
            copy 0 0 1 [0..5] 0 ! INDEX
            copy 1 0 0 [0..5] 5 ! INDEX
            """);
        Script.run(check, "promise 42: n items", unlike + """
            copy 0 0 1 0 [0..5] ! INDEX
            copy 1 0 0 0 [0..5] ! INDEX
            copy 0 7 1 0 [0..3] ! INDEX
            copy 0 0 1 2 [0..3] ! INDEX
            copy 0 3 0 0 [0..7] ! INDEX
            copy 0 0 0 3 [0..7] ! INDEX
            """);
        Script.run(check, "promise 42: sums beyond an int", unlike + """
            copy 0 MAX 1 0 MAX ! INDEX
            copy 0 1 1 0 MAX ! INDEX
            copy 0 0 1 1 MAX ! INDEX
            copy 0 MIN 1 0 MIN ! INDEX
            copy 0 -1 1 0 MIN ! INDEX
            copy 0 MAX 1 MAX 1 ! INDEX
            """);
    }

    private static void copyNamedFirst() {
        Script.run(check, "promise 42: of several the first: BAD, NULL, CAST, INDEX", SHEETS + """
            copy 4 -1 3 -1 -1 ! BAD
            copy 3 -1 4 -1 -1 ! BAD
            copy -1 -1 0 -1 -1 ! BAD
            copy 0 -1 3 -1 -1 ! NULL
            copy 3 -1 1 -1 -1 ! NULL
            copy 0 -1 1 -1 -1 ! CAST
            copy 0 0 1 0 11 ! CAST
            copy 0 -1 0 0 1 ! INDEX
            """);
    }

    /** Every way to copy within ten items, and to another sheet, against an array that was taken ahead. */
    private static void copyMoves() {
        check.about("promise 42: as if all were taken ahead");
        for (int to = 0; to < 2; to++) {
            for (int i = 0; i <= 10; i++) {
                for (int j = 0; j <= 10; j++) {
                    for (int n = 0; n <= 10 - Math.max(i, j); n++) {
                        copyOnce(to, i, j, n);
                    }
                }
            }
        }
    }

    private static void copyOnce(int to, int i, int j, int n) {
        ThrowersBag bag = new ThrowersBag();
        bag.plain(100, 0, 1, 0);
        bag.sheet(0, 2, 10);
        bag.sheet(1, 2, 10);
        int[][] due = new int[2][10];
        for (int k = 0; k < 10; k++) {
            due[0][k] = 1000 + k;
            due[1][k] = 2000 + k;
            bag.item(0, 2, k, due[0][k]);
            bag.item(1, 2, k, due[1][k]);
        }
        String about = "copy(0, " + i + ", " + to + ", " + j + ", " + n + ")";
        check.due(about, bag.copy(0, i, to, j, n), n);
        System.arraycopy(due[0].clone(), i, due[to], j, n);
        bag.sheet(2, 2, 7);
        bag.item(2, 2, 3, 30);
        bag.item(2, 2, 4, 100);
        for (int sheet = 0; sheet < 2; sheet++) {
            for (int k = 0; k < 10; k++) {
                bag.copy(sheet, k, 2, 6, 1);
                bag.rows(2, 2, 0, 1);
                check.due(about + ", item " + k + " of " + sheet, bag.miss(0, 0), due[sheet][k] - 150);
                bag.unrow();
            }
        }
    }
}
