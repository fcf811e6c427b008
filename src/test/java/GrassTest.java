/** Promises 33 to 38: seen, patch, grass, next, search, count. */
public final class GrassTest {
    private static final Check check = new Check();

    public static void main(String[] args) {
        seen();
        seenWeights();
        seenEdges();
        patch();
        grass();
        next();
        search();
        count();
        check.end();
    }

    private static void seen() {
        Script.run(check, "promise 33: wrong ones", """
            seen 0 = BAD
            plain 10 0 1 0 = 0
            fly 0 0 90 100 800 -1 = 1
            seen 18 = BAD
            seen -1 = BAD
            seen MIN = BAD
            seen MAX = BAD
            next = NONE
            seen 17 = 12
            grass 12 0 = 1000
            fly 0 0 90 100 99 -1 = BAD
            seen 16 = 12
            """);
        Script.run(check, "promise 33: a search begins anew, k stays", """
            plain 10 0 1 0 = 0
            patch 12 0 9 = 0
            patch 0 1000 1 = 0
            fly 0 0 90 100 800 -1 = 1
            seen 17 = 12
            grass 12 0 = 1000
            grass 12 1 = 9
            grass 0 0 = 200
            grass 0 1 = 1
            """);
    }

    private static void seenWeights() {
        check.about("promise 33: weights");
        int[] due = {
            200, 250, 333, 500, 333,
            250, 333, 500, 1000, 500,
            200, 250, 333, 500, 333,
            166, 200, 250, 333, 250,
            142, 166, 200, 250, 200};
        ThrowersBag bag = new ThrowersBag();
        bag.plain(10, 0, 1, 0);
        // Each tick 141 by x, -141 by y, and the wind's -60 by y: a column to the right, a row back.
        bag.wind();
        bag.blows(0, 0, 60, 180);
        bag.fly(0, 0, 135, 200, 800, 0);
        check.due("x of the last two ticks", bag.at(17, 0) - bag.at(15, 0), 282);
        check.due("y of the last two ticks", bag.at(17, 1) - bag.at(15, 1), -402);
        check.due("seen(15)", bag.seen(15), 8);
        for (int p = 0; p < 25; p++) {
            check.due("grass(" + p + ", 0)", bag.grass(p, 0), due[p]);
        }
    }

    /** Weight 10 is on the ground at tick 17: strength further by x (or y) each tick. */
    private static void seenEdges() {
        Script.run(check, "promise 33: columns", """
            plain 10 0 1 0 = 0
            fly 0 0 90 199 800 -1 = 1
            seen 16 = 12
            fly 0 0 90 200 800 -1 = 1
            seen 16 = 13
            seen 14 = 14
            seen 12 = 14        // 1000: beyond
            seen 0 = 14
            fly 0 0 90 199 800 -1 = 1
            seen 14 = 13        // 597
            fly 0 0 270 200 800 -1 = 1
            seen 16 = 12
            seen 14 = 11        // -600
            fly 0 0 270 201 800 -1 = 1
            seen 16 = 11
            seen 14 = 10        // -603
            seen 12 = 10        // -1005
            seen 0 = 10
            """);
        Script.run(check, "promise 33: rows", """
            plain 10 0 1 0 = 0
            fly 0 0 0 199 800 -1 = 1
            seen 16 = 12
            fly 0 0 0 200 800 -1 = 1
            seen 16 = 17
            seen 14 = 22
            seen 0 = 22
            fly 0 0 180 200 800 -1 = 1
            seen 16 = 12
            seen 14 = 7
            fly 0 0 180 201 800 -1 = 1
            seen 16 = 7
            seen 14 = 2
            seen 0 = 2
            grass 2 0 = 1000
            grass 22 0 = 200
            """);
        Script.run(check, "promise 33: corners", """
            plain 5 0 1 0 = 0
            fly 0 0 45 200 800 -1 = 4
            seen 0 = 24
            fly 0 0 135 200 800 -1 = 4
            seen 0 = 4
            fly 0 0 225 200 800 -1 = 4
            seen 0 = 0
            grass 24 0 = 111
            fly 0 0 315 200 800 -1 = 4
            seen 0 = 20
            seen 400 = 12
            """);
    }

    private static void patch() {
        Script.run(check, "promise 34", """
            patch 0 1000 9 = 0
            patch 24 0 1 = 0
            patch 0 500 1 = 1000
            patch -1 1 1 = BAD
            patch 25 1 1 = BAD
            patch 0 -1 1 = BAD
            patch 0 1001 1 = BAD
            patch 0 1 0 = BAD
            patch 0 1 10 = BAD
            patch MIN MAX MIN = BAD
            grass 0 0 = 500
            grass 0 1 = 1
            grass 24 0 = 0
            grass 24 1 = 1
            grass 1 0 = 0
            grass 1 1 = 5
            """);
    }

    private static void grass() {
        Script.run(check, "promise 35", """
            grass 0 0 = 0
            grass 0 1 = 5
            grass 24 0 = 0
            grass 24 1 = 5
            patch 7 123 4 = 0
            grass 7 0 = 123
            grass 7 1 = 4
            grass 7 2 = BAD
            grass 7 -1 = BAD
            grass -1 0 = BAD
            grass 25 0 = BAD
            grass MAX MAX = BAD
            """);
    }

    private static void next() {
        Script.run(check, "promise 36", """
            next = NONE
            patch 24 1 1 = 0
            next = 24
            patch 20 1 1 = 0
            next = 20
            patch 22 1 2 = 0
            next = 22
            patch 3 100 9 = 0
            next = 3
            patch 9 180 5 = 0     // 900, too
            next = 3
            patch 2 450 2 = 0     // 900, too
            next = 2
            patch 9 181 5 = 180
            next = 9
            patch 0 1000 9 = 0
            next = 0
            search 0 = 100        // still 900
            next = 9
            """);
        Script.run(check, "promise 36: all are 0 again", """
            patch 5 0 9 = 0
            next = NONE
            patch 5 9 9 = 0
            search 5 = 0
            next = NONE
            """);
    }

    private static void search() {
        Script.run(check, "promise 37", """
            search -1 = BAD
            search 25 = BAD
            search MIN = BAD
            search 0 = 0
            patch 0 999 1 = 0
            search 0 = 899
            grass 0 0 = 899
            grass 0 1 = 1
            patch 0 999 9 = 899
            search 0 = 99
            search 0 = 9
            search 0 = 0
            search 0 = 0
            patch 24 1000 5 = 0
            search 24 = 500
            search 24 = 250
            search 24 = 125
            search 24 = 62
            patch 23 7 7 = 0
            search 23 = 2
            """);
    }

    private static void count() {
        Script.run(check, "promise 38", """
            *3 plain 5 0 1 0
            *2 winged 5 0 1 0 1
            lose 0 true = 1
            lose 4 true = 1
            *6 wind
            *4 tree 9000 9000 1 1
            *7 row 0 0 0 100 800 0 0
            match 0 -1 = -2
            match 4 5 = -2
            count 0 = 5
            count 1 = 3
            count 2 = 6
            count 3 = 4
            count 4 = 7
            count 5 = 2
            count 6 = BAD
            count -1 = BAD
            count MIN = BAD
            count MAX = BAD
            """);
    }
}
