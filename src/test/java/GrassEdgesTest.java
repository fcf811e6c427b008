/** Promises 33 to 38, sentence by sentence at their edges: seen, patch, grass, next, search, count. */
public final class GrassEdgesTest {
    private static final Check check = new Check();

    public static void main(String[] args) {
        seenTicks();
        columns();
        rowsOfPatches();
        beyond();
        everyPatch();
        patch();
        grass();
        next();
        search();
        count();
        check.end();
    }

    private static void seenTicks() {
        Script.run(check, "promise 33: ahead of a fly()", """
            plain 10 0 1 0 = 0
            seen 0 ! BAD
            fly 0 0 0 29 800 -1 ! BAD
            seen 0 ! BAD
            """);
        Script.run(check, "promise 33: a tick of the latest fly()", """
            plain 10 0 1 0 = 0
            plain 5 0 1 0 = 1
            patch 3 4 5 = 0
            fly 0 0 90 100 800 -1 = 1
            seen [0..17] ! BAD
            fly 1 0 90 100 800 -1 = 4
            seen [0..400] ! BAD
            fly 0 0 90 100 800 -1 = 1
            seen 18 ! BAD
            seen 400 ! BAD
            grass 3 0 = 4
            next = 3
            """);
        Script.run(check, "promise 33: at its last tick: the middle one", """
            plain 10 0 1 0 = 0
            fly 0 0 90 250 800 -1 = 1
            seen 17 = 12
            grass 12 0 = 1000
            """);
        Script.run(check, "promise 33: weights, not k", """
            plain 10 0 1 0 = 0
            patch 12 0 1 = 0
            patch 0 1000 9 = 0
            fly 0 0 90 250 800 -1 = 1
            seen 17 = 12
            grass 12 1 = 1
            grass 0 1 = 9
            grass 0 0 = 200
            """);
    }

    /** Weight 100 is on the ground at tick 5: from tick 4 once, from tick 3 twice so far, with the wind's 60. */
    private static void columns() {
        Script.run(check, "terms 5: to 199 more by x, the next from 200", """
            plain 100 0 1 0 = 0
            fly 0 0 90 199 800 -1 = 1
            seen 4 = 12
            fly 0 0 90 200 800 -1 = 1
            seen 4 = 13
            """);
        Script.run(check, "terms 5: from 200 less by x, 201 is the one ahead", """
            plain 100 0 1 0 = 0
            fly 0 0 270 200 800 -1 = 1
            seen 4 = 12
            fly 0 0 270 201 800 -1 = 1
            seen 4 = 11
            """);
        Script.run(check, "terms 5: each 400 wide by x: 599 and 600", """
            plain 100 0 1 1 = 0
            plain 100 0 1 0 = 1
            wind = 0
            blows 0 0 60 90 = 0
            fly 0 0 90 243 800 0 = 1
            seen 3 = 13
            fly 1 0 90 240 800 0 = 1
            seen 3 = 14
            """);
        Script.run(check, "terms 5: each 400 wide by x: 600 less and 601 less", """
            plain 100 0 1 1 = 0
            plain 100 0 1 0 = 1
            wind = 0
            blows 0 0 60 270 = 0
            fly 1 0 270 240 800 0 = 1
            seen 3 = 11
            fly 0 0 270 244 800 0 = 1
            seen 3 = 10
            """);
    }

    private static void rowsOfPatches() {
        Script.run(check, "terms 5: to 199 more by y, the next from 200", """
            plain 100 0 1 0 = 0
            fly 0 0 0 199 800 -1 = 1
            seen 4 = 12
            fly 0 0 0 200 800 -1 = 1
            seen 4 = 17
            """);
        Script.run(check, "terms 5: from 200 less by y, 201 is the one ahead", """
            plain 100 0 1 0 = 0
            fly 0 0 180 200 800 -1 = 1
            seen 4 = 12
            fly 0 0 180 201 800 -1 = 1
            seen 4 = 7
            """);
        Script.run(check, "terms 5: each 400 wide by y: 599 and 600", """
            plain 100 0 1 1 = 0
            plain 100 0 1 0 = 1
            wind = 0
            blows 0 0 60 0 = 0
            fly 0 0 0 243 800 0 = 1
            seen 3 = 17
            fly 1 0 0 240 800 0 = 1
            seen 3 = 22
            """);
        Script.run(check, "terms 5: each 400 wide by y: 600 less and 601 less", """
            plain 100 0 1 1 = 0
            plain 100 0 1 0 = 1
            wind = 0
            blows 0 0 60 180 = 0
            fly 1 0 180 240 800 0 = 1
            seen 3 = 7
            fly 0 0 180 244 800 0 = 1
            seen 3 = 2
            """);
    }

    private static void beyond() {
        Script.run(check, "terms 5: beyond: the nearest column", """
            plain 100 0 1 0 = 0
            fly 0 0 90 200 800 -1 = 1
            seen 0 = 14           // 1000 more
            fly 0 0 90 199 800 -1 = 1
            seen 0 = 14           // 995
            fly 0 0 270 200 800 -1 = 1
            seen 0 = 10           // 1000 less
            fly 0 0 270 201 800 -1 = 1
            seen 0 = 10           // 1005 less
            plain 5 0 1 0 = 1
            fly 1 0 90 250 800 -1 = 4
            seen 0 = 14           // 100000 more
            fly 1 0 270 250 800 -1 = 4
            seen 0 = 10
            """);
        Script.run(check, "terms 5: beyond: the nearest row", """
            plain 100 0 1 0 = 0
            fly 0 0 0 200 800 -1 = 1
            seen 0 = 22
            fly 0 0 0 199 800 -1 = 1
            seen 0 = 22
            fly 0 0 180 200 800 -1 = 1
            seen 0 = 2
            fly 0 0 180 201 800 -1 = 1
            seen 0 = 2
            plain 5 0 1 0 = 1
            fly 1 0 0 250 800 -1 = 4
            seen 0 = 22
            fly 1 0 180 250 800 -1 = 4
            seen 0 = 2
            """);
        Script.run(check, "terms 5: beyond by columns, not by rows", """
            plain 100 0 1 0 = 0
            wind = 0
            blows 0 0 60 90 = 0
            fly 0 0 45 250 800 0 = 1   // each tick 218 by x, 176 by y
            seen 0 = 24
            seen 1 = 24                // 872, 704
            seen 2 = 19                // 654, 528
            seen 3 = 18                // 436, 352
            seen 4 = 13                // 218, 176
            """);
        Script.run(check, "terms 5: beyond by both: the corners, eight patches from one another", """
            plain 5 0 1 0 = 0
            fly 0 0 45 250 800 -1 = 4
            seen 0 = 24
            grass 24 0 = 1000
            grass 0 0 = 111
            fly 0 0 225 250 800 -1 = 4
            seen 0 = 0
            grass 0 0 = 1000
            grass 24 0 = 111
            fly 0 0 135 250 800 -1 = 4
            seen 0 = 4
            grass 20 0 = 111
            fly 0 0 315 250 800 -1 = 4
            seen 0 = 20
            grass 4 0 = 111
            """);
    }

    /** By at() alone: where it ended, and all 25 weights, for ends in every patch. */
    private static void everyPatch() {
        check.about("promise 33: every patch");
        boolean[] met = new boolean[25];
        for (int angle = 0; angle < 360; angle += 15) {
            for (int strength = 50; strength <= 250; strength += 40) {
                for (int tick = 10; tick <= 17; tick++) {
                    ThrowersBag bag = new ThrowersBag();
                    bag.plain(10, 0, 1, 0);
                    bag.fly(0, 0, angle, strength, 800, -1);
                    int column = line(bag.at(17, 0) - bag.at(tick, 0));
                    int row = line(bag.at(17, 1) - bag.at(tick, 1));
                    check.due("seen(" + tick + ")", bag.seen(tick), 5 * row + column);
                    met[5 * row + column] = true;
                    for (int p = 0; p < 25; p++) {
                        int due = 1000 / (1 + Math.abs(p % 5 - column) + Math.abs(p / 5 - row));
                        check.due("grass(" + p + ", 0)", bag.grass(p, 0), due);
                    }
                }
            }
        }
        for (int p = 0; p < 25; p++) {
            check.is("a throw ended in patch " + p, met[p]);
        }
    }

    private static int line(int away) {
        return away < -600 ? 0 : away < -200 ? 1 : away < 200 ? 2 : away < 600 ? 3 : 4;
    }

    private static void patch() {
        String some = """
            patch 0 10 3 = 0
            patch 24 20 4 = 0
            """;
        Script.run(check, "promise 34: patches 0 .. 24", some + "patch [0..24] 7 8 ! BAD");
        Script.run(check, "promise 34: weights 0 .. 1000", some + "patch 0 [0..1000] 8 ! BAD");
        Script.run(check, "promise 34: k 1 .. 9", some + "patch 0 7 [1..9] ! BAD");
        Script.run(check, "promise 34: what it was, at the least and the greatest", some + """
            patch 24 1000 9 = 20
            patch 24 1001 1 ! BAD
            patch 24 1 10 ! BAD
            patch 24 0 1 = 1000
            patch 24 -1 1 ! BAD
            patch 24 1 0 ! BAD
            patch 24 5 5 = 0
            patch 0 0 1 = 10
            """);
    }

    private static void grass() {
        Script.run(check, "promise 35: patches 0 .. 24", "grass [0..24] 0 ! BAD\ngrass [0..24] 1 ! BAD");
        Script.run(check, "promise 35: a weight (0), k (1)", "grass 0 [0..1] ! BAD\ngrass 24 [0..1] ! BAD");
        Script.run(check, "promise 35: the least and the greatest", """
            patch 0 1000 9 = 0
            patch 24 0 1 = 0
            grass 0 0 = 1000
            grass 0 1 = 9
            grass 24 0 = 0
            grass 24 1 = 1
            grass 1 0 = 0
            grass 1 1 = 5
            """);
    }

    private static void next() {
        Script.run(check, "promise 36: all are 0, whatever k is", """
            next ! NONE
            patch 7 0 9 = 0
            next ! NONE
            patch 7 1 1 = 0
            next = 7
            patch 7 0 1 = 1
            next ! NONE
            """);
        Script.run(check, "promise 36: the first patch, the last patch", """
            patch 24 1 1 = 0
            next = 24
            patch 0 1 1 = 0
            next = 0
            patch 24 1 2 = 1
            next = 24
            """);
        Script.run(check, "promise 36: the greatest weight times its k, of like ones the least", """
            patch 10 100 9 = 0
            patch 11 300 3 = 0
            next = 10
            patch 9 900 1 = 0
            next = 9
            patch 9 899 1 = 900
            next = 10
            patch 20 901 1 = 0
            next = 20
            patch 24 1000 9 = 0
            next = 24
            patch 23 1000 9 = 0
            next = 23
            """);
        Script.run(check, "promise 36: all are 0 after searches", """
            patch 3 1 1 = 0
            next = 3
            search 3 = 0
            next ! NONE
            """);
    }

    private static void search() {
        Script.run(check, "promise 37: patches 0 .. 24", """
            patch 0 10 3 = 0
            patch 24 20 4 = 0
            search [0..24] ! BAD
            """);
        Script.run(check, "promise 37: (10 - k) times it by 10: k 1 and 9, the greatest weight", """
            patch 0 1000 1 = 0
            search 0 = 900
            search 0 = 810
            patch 0 1000 9 = 810
            search 0 = 100
            search 0 = 10
            search 0 = 1
            search 0 = 0
            search 0 = 0
            grass 0 1 = 9
            """);
        Script.run(check, "promise 37: cut: 9 times 1, 9 times 9, 1 times 19", """
            patch 5 1 1 = 0
            search 5 = 0
            patch 5 9 1 = 0
            search 5 = 8
            patch 5 19 9 = 8
            search 5 = 1
            """);
        Script.run(check, "promise 37: that patch alone", """
            patch 5 100 5 = 0
            patch 6 100 5 = 0
            search 5 = 50
            grass 6 0 = 100
            grass 5 0 = 50
            grass 4 0 = 0
            """);
    }

    private static void count() {
        Script.run(check, "promise 38: 0 .. 5", "count [0..5] ! BAD");
        Script.run(check, "promise 38: at nothing", """
            count 0 = 0
            count 1 = 0
            count 2 = 0
            count 3 = 0
            count 4 = 0
            count 5 = 0
            """);
        Script.run(check, "promise 38: at full and beyond", """
            *10 plain 5 0 1 0
            *9 wind
            *7 tree 9000 9000 1 1
            *31 row 0 0 0 100 800 0 0
            match 0 -1 = -2
            match 1 0 = -2
            match 2 7 = -2
            match 3 -1 = -2
            match 4 -1 = -2
            count 0 = 9
            count 1 = 9
            count 2 = 8
            count 3 = 6
            count 4 = 30
            count 5 = 5
            count [0..5] ! BAD
            match 0 -2 = -1
            match 0 -2 = -2
            count 5 = 4
            lose 0 true = 1
            lose 0 true = 0
            count 1 = 8
            count 0 = 9
            """);
    }
}
