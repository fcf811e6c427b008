/** Promises 39 to 42: sheet, drop, item, copy. What a sheet holds is seen by rows(). */
public final class SheetsTest {
    private static final Check check = new Check();

    public static void main(String[] args) {
        sheet();
        sheetIsNew();
        drop();
        item();
        lowestBits();
        copy();
        copyOverItself();
        copyFaults();
        check.end();
    }

    private static void sheet() {
        Script.run(check, "promise 39", """
            sheet 0 0 0 = 0
            sheet 3 2 60 = 60
            sheet 1 1 61 = BAD
            sheet -1 1 1 = BAD
            sheet 4 1 1 = BAD
            sheet 1 -1 1 = BAD
            sheet 1 3 1 = BAD
            sheet 1 1 -1 = SIZE
            sheet 1 1 MIN = SIZE
            sheet 1 1 MAX = BAD
            sheet 4 1 -1 = BAD
            sheet 1 3 -1 = BAD
            drop 1 = NULL
            sheet 3 2 -1 = SIZE
            sheet 3 2 61 = BAD
            drop 3 = 60
            drop 0 = 0
            drop 0 = NULL
            """);
    }

    private static final String ROW = """
        plain 10 0 1 0 = 0
        sheet 0 2 7 = 7
        item 0 2 3 100 = 1
        item 0 2 4 800 = 1
        item 0 2 6 1700 = 1
        rows 0 2 0 1 = 1
        miss 0 0 = 0
        """;

    private static void sheetIsNew() {
        Script.run(check, "promise 39: a new row holds zeros", ROW + """
            sheet 0 2 7 = 7
            rows 0 2 0 1 = NOT
            item 0 2 3 100 = 1
            item 0 2 4 100 = 1
            rows 0 2 0 1 = 2
            miss 1 0 = 1700
            sheet 0 1 6 = 6
            item 0 2 0 0 = CAST
            item 0 1 6 0 = INDEX
            """);
        Script.run(check, "promise 39: a shorter row, then a longer one", ROW + """
            sheet 0 2 0 = 0
            sheet 0 2 7 = 7
            rows 0 2 0 1 = NOT
            """);
    }

    private static void drop() {
        Script.run(check, "promise 40", ROW + """
            drop -1 = BAD
            drop 4 = BAD
            drop MIN = BAD
            drop 1 = NULL
            drop 0 = 7
            drop 0 = NULL
            item 0 2 0 0 = NULL
            rows 0 2 0 1 = NULL
            sheet 0 2 7 = 7
            rows 0 2 0 1 = NOT
            """);
    }

    private static void item() {
        Script.run(check, "promise 41", """
            item 0 0 0 0 = NULL
            item 0 3 0 0 = BAD
            item 0 -1 0 0 = BAD
            item 4 0 0 0 = BAD
            item -1 0 0 0 = BAD
            sheet 0 1 60 = 60
            item 0 1 0 1 = 1
            item 0 1 59 1 = 1
            item 0 1 60 1 = INDEX
            item 0 1 -1 1 = INDEX
            item 0 1 MIN 1 = INDEX
            item 0 1 MAX 1 = INDEX
            item 0 0 0 1 = CAST
            item 0 2 60 1 = CAST
            item 0 3 60 1 = BAD
            item 1 1 60 1 = NULL
            sheet 1 0 0 = 0
            item 1 0 0 1 = INDEX
            item 1 0 -1 1 = INDEX
            """);
        Script.run(check, "promise 41: each its own place", ROW + """
            item 0 2 7 1 = INDEX
            item 0 2 5 3 = 1
            item 0 2 6 1690 = 1
            rows 0 2 0 1 = 2
            miss 1 0 = 13
            item 0 1 6 9999 = CAST
            rows 0 2 0 1 = 3
            miss 2 0 = 13
            """);
    }

    /** Strength 100, spin 100, x, y in items of each lane; weight 10 ends at 0, 1700. */
    private static void lowestBits() {
        Script.run(check, "promise 41: bytes", """
            plain 10 0 1 0 = 0
            sheet 0 0 7 = 7
            item 0 0 0 256 = 1
            item 0 0 3 -156 = 1       // 100
            item 0 0 4 356 = 1        // 100
            item 0 0 5 128 = 1        // -128
            item 0 0 6 127 = 1
            rows 0 0 0 1 = 1
            miss 0 0 = 1701
            item 0 0 3 200 = 1        // -56
            rows 0 0 0 1 = NOT
            """);
        Script.run(check, "promise 41: shorts", """
            plain 10 0 1 0 = 0
            sheet 0 1 7 = 7
            item 0 1 0 65536 = 1
            item 0 1 3 -65436 = 1     // 100
            item 0 1 4 800 = 1
            item 0 1 5 65535 = 1      // -1
            item 0 1 6 1700 = 1
            rows 0 1 0 1 = 1
            miss 0 0 = 1
            item 0 1 5 32768 = 1      // -32768
            rows 0 1 0 1 = NOT
            """);
        Script.run(check, "promise 41: ints", ROW + """
            item 0 2 0 65536 = 1
            rows 0 2 0 1 = NOT
            item 0 2 0 256 = 1
            rows 0 2 0 1 = NOT
            item 0 2 0 MIN = 1
            rows 0 2 0 1 = NOT
            item 0 2 0 0 = 1
            rows 0 2 0 1 = 2
            """);
    }

    private static void copy() {
        Script.run(check, "promise 42", ROW + """
            sheet 1 2 9 = 9
            copy 0 0 1 2 7 = 7
            rows 1 2 2 1 = 2
            miss 1 0 = 0
            rows 1 2 0 1 = NOT
            copy 0 0 1 0 0 = 0
            rows 1 2 2 1 = 3
            sheet 2 2 7 = 7
            copy 1 2 2 0 6 = 6        // y stays 0
            rows 2 2 0 1 = 4
            miss 3 0 = 1700
            copy 0 6 2 6 1 = 1
            rows 2 2 0 1 = 5
            miss 4 0 = 0
            rows 0 2 0 1 = 6          // what was copied stays
            miss 5 0 = 0
            """);
        Script.run(check, "promise 42: bytes and shorts", """
            plain 10 0 1 0 = 0
            sheet 0 0 7 = 7
            item 0 0 3 100 = 1
            item 0 0 4 100 = 1
            sheet 1 0 7 = 7
            copy 0 0 1 0 7 = 7
            rows 1 0 0 1 = 1
            sheet 2 1 7 = 7
            item 2 1 3 100 = 1
            item 2 1 4 1000 = 1
            sheet 3 1 7 = 7
            copy 2 0 3 0 7 = 7
            rows 3 1 0 1 = 2
            """);
    }

    private static void copyOverItself() {
        String tenItems = """
            plain 10 0 1 0 = 0
            sheet 0 2 10 = 10
            """;
        Script.run(check, "promise 42: upward over itself", tenItems + """
            item 0 2 3 100 = 1
            item 0 2 4 800 = 1
            item 0 2 5 3 = 1
            item 0 2 6 1690 = 1
            copy 0 0 0 1 7 = 7
            rows 0 2 1 1 = 1
            miss 0 0 = 13
            copy 0 1 0 3 7 = 7
            rows 0 2 3 1 = 2
            miss 1 0 = 13
            copy 0 3 0 3 7 = 7
            rows 0 2 3 1 = 3
            miss 2 0 = 13
            """);
        Script.run(check, "promise 42: downward over itself", tenItems + """
            item 0 2 6 100 = 1
            item 0 2 7 800 = 1
            item 0 2 8 3 = 1
            item 0 2 9 1690 = 1
            copy 0 3 0 2 7 = 7
            rows 0 2 2 1 = 1
            miss 0 0 = 13
            copy 0 2 0 0 7 = 7
            rows 0 2 0 1 = 2
            miss 1 0 = 13
            """);
    }

    private static void copyFaults() {
        Script.run(check, "promise 42: wrong ones", ROW + """
            copy 0 0 1 0 1 = NULL
            copy 1 0 0 0 1 = NULL
            copy 1 -1 1 -1 -1 = NULL
            copy 4 0 1 0 1 = BAD
            copy -1 0 1 0 1 = BAD
            copy 0 0 4 0 1 = BAD
            copy 1 0 -1 0 1 = BAD
            sheet 1 1 7 = 7
            copy 0 0 1 0 1 = CAST
            copy 0 -1 1 0 1 = CAST
            copy 0 0 1 0 0 = CAST
            sheet 1 2 5 = 5
            copy 0 0 1 0 5 = 5
            copy 0 0 1 0 6 = INDEX
            copy 0 0 1 1 5 = INDEX
            copy 1 0 0 2 5 = 5
            copy 1 0 0 3 5 = INDEX
            copy 0 3 1 0 5 = INDEX
            copy 0 -1 1 0 1 = INDEX
            copy 0 0 1 -1 1 = INDEX
            copy 0 0 1 0 -1 = INDEX
            copy 0 7 1 5 0 = 0
            copy 0 8 1 5 0 = INDEX
            copy 0 7 1 6 0 = INDEX
            copy 0 MAX 1 0 1 = INDEX
            copy 0 0 1 MAX 1 = INDEX
            copy 0 0 1 0 MAX = INDEX
            copy 0 MAX 1 MAX MAX = INDEX
            copy 0 MIN 1 MIN MIN = INDEX
            """);
        Script.run(check, "promise 42: what is refused changes nothing", ROW + """
            sheet 1 2 9 = 9
            copy 0 0 1 0 7 = 7
            copy 0 1 1 0 7 = INDEX
            copy 0 0 1 3 7 = INDEX
            rows 1 2 0 1 = 2
            miss 1 0 = 0
            """);
    }
}
