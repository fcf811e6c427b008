/** Promises 8 to 13: wind, blows, swing, tree, ring, table. */
public final class WindsAndTreesTest {
    private static final Check check = new Check();

    public static void main(String[] args) {
        wind();
        blows();
        windsByHeights();
        swing();
        tree();
        treesEnd();
        ring();
        table();
        check.end();
    }

    private static void wind() {
        Script.run(check, "promise 8", """
            wind = 0
            wind = 1
            *5 wind
            wind = 7
            wind = FULL
            count 2 = 8
            plain 5 0 1 0 = 0
            fly 0 0 90 100 800 7 = 4   // of no speed
            at 1 0 = 100
            at 1 1 = 0
            blows 7 0 50 90 = 0
            blows 7 3 50 90 = 0
            """);
    }

    private static void blows() {
        Script.run(check, "promise 9", """
            blows 0 0 1 0 = BAD
            wind = 0
            wind = 1
            blows 0 0 60 0 = 0
            blows 0 0 0 359 = 60
            blows 0 0 5 180 = 0
            blows 0 1 6 90 = 0
            blows 0 0 61 0 = BAD
            blows 0 0 -1 0 = BAD
            blows 0 0 1 360 = BAD
            blows 0 0 1 -1 = BAD
            blows 0 -1 1 0 = BAD
            blows 0 4 1 0 = BAD
            blows -1 0 1 0 = BAD
            blows 2 0 1 0 = BAD
            blows MAX MIN MAX MIN = BAD
            blows 0 0 7 0 = 5
            blows 0 1 7 0 = 6
            blows 0 2 7 0 = 0
            blows 1 0 7 0 = 0
            """);
        Script.run(check, "promise 9: where to", """
            plain 5 0 1 0 = 0
            wind = 0
            blows 0 0 60 90 = 0
            fly 0 0 0 100 800 0 = 4
            at 1 0 = 60
            at 1 1 = 100
            blows 0 0 60 180 = 60
            fly 0 0 0 100 800 0 = 4
            at 1 0 = 0
            at 1 1 = 40
            blows 0 0 60 181 = 60   // 60 times -17 by 1000, cut toward 0
            fly 0 0 0 100 800 0 = 4
            at 1 0 = -1
            at 1 1 = 40
            fly 0 0 0 100 800 -1 = 4
            at 1 1 = 100
            """);
    }

    /** Sticks that climb differently meet every edge between two parts of a wind. */
    private static void windsByHeights() {
        check.about("promise 9: heights");
        int[] edges = {199, 200, 499, 500, 999, 1000};
        boolean[] met = new boolean[edges.length];
        for (int v = 10; v < 300; v++) {
            ThrowersBag bag = new ThrowersBag();
            bag.plain(5, 0, 1, 0);
            bag.lift(0, 1, v);
            bag.wind();
            for (int band = 0; band < 4; band++) {
                bag.blows(0, band, 10 * band + 10, 90);
            }
            bag.fly(0, 0, 0, 100, 1000, 0);
            for (int tick = 1; tick <= bag.ticks(); tick++) {
                int height = bag.at(tick, 2);
                int due = height < 200 ? 10 : height < 500 ? 20 : height < 1000 ? 30 : 40;
                int moved = bag.at(tick, 0) - bag.at(tick - 1, 0);
                if (moved != due) {
                    check.due("the wind at height " + height, moved, due);
                }
                for (int i = 0; i < edges.length; i++) {
                    met[i] |= height == edges[i];
                }
            }
        }
        for (int i = 0; i < edges.length; i++) {
            check.is("a throw met height " + edges[i], met[i]);
        }
    }

    private static void swing() {
        Script.run(check, "promise 10", """
            swing 0 1 = BAD
            plain 5 0 1 0 = 0
            wind = 0
            wind = 1
            blows 0 0 60 90 = 0
            swing 0 360 = BAD
            swing 0 -360 = BAD
            swing -1 1 = BAD
            swing 2 1 = BAD
            swing MAX MAX = BAD
            swing 0 90 = 1
            fly 0 0 0 100 800 0 = 4
            at 1 1 = 40
            swing 0 -359 = 1   // 180 to 181
            fly 0 0 0 100 800 0 = 4
            at 1 0 = -1
            swing 0 359 = 1    // 180
            swing 0 179 = 1    // 359
            fly 0 0 0 100 800 0 = 4
            at 1 0 = -1
            at 1 1 = 160
            swing 0 1 = 1      // 0
            fly 0 0 0 100 800 0 = 4
            at 1 0 = 0
            at 1 1 = 160
            swing 0 -1 = 1     // 359
            fly 0 0 0 100 800 0 = 4
            at 1 0 = -1
            swing 0 0 = 1
            blows 0 0 60 0 = 60
            """);
        // A stick that climbs from one part into the next: all four swing.
        Script.run(check, "promise 10: all four parts", """
            plain 5 0 1 0 = 0
            lift 0 1 300 = 0
            wind = 0
            blows 0 0 10 0 = 0
            blows 0 1 10 0 = 0
            blows 0 2 10 0 = 0
            blows 0 3 10 0 = 0
            swing 0 90 = 1
            fly 0 0 0 100 1000 0 = 4
            at 1 0 = 10
            at 2 0 = 20
            at 5 0 = 50
            at 20 0 = 200
            at 20 1 = 2000
            """);
    }

    private static void tree() {
        Script.run(check, "promise 11: ranges and full", """
            tree -9001 0 1 1 = BAD
            tree 9001 0 1 1 = BAD
            tree 0 -9001 1 1 = BAD
            tree 0 9001 1 1 = BAD
            tree 0 0 0 1 = BAD
            tree 0 0 501 1 = BAD
            tree 0 0 1 0 = BAD
            tree 0 0 1 3001 = BAD
            tree MIN MAX MIN MAX = BAD
            count 3 = 0
            tree -9000 -9000 1 1 = 0
            tree 9000 9000 500 3000 = 1
            *3 tree 9000 9000 1 1
            tree 9000 9000 1 1 = 5
            tree 9000 9000 1 1 = FULL
            tree 9000 9000 1 0 = BAD
            count 3 = 6
            """);
    }

    /** A level stick: 100 further by x each tick, at height 150. At tick 5 the tree is just so near. */
    private static void treesEnd() {
        Script.run(check, "promise 11: thick and high", """
            plain 5 0 1 0 = 0
            tree 500 100 99 150 = 0
            fly 0 0 90 100 800 -1 = 4
            hit = NONE
            tree 500 100 100 149 = 1
            fly 0 0 90 100 800 -1 = 4
            tree 500 100 100 150 = 2
            fly 0 0 90 100 800 -1 = 3
            hit = 2
            ticks = 5
            at 5 0 = 500
            tree 400 0 1 3000 = 3
            fly 0 0 90 100 800 -1 = 3
            hit = 3
            ticks = 4
            """);
        Script.run(check, "promise 11: the first by numbers", """
            plain 5 0 1 0 = 0
            tree 600 0 100 3000 = 0
            tree 500 0 1 3000 = 1
            fly 0 0 90 100 800 -1 = 3
            hit = 0
            ticks = 5
            """);
    }

    private static void ring() {
        Script.run(check, "promise 12", """
            ring 0 = BAD
            ring 2001 = BAD
            ring MIN = BAD
            ring MAX = BAD
            ring 1 = 300
            ring 2000 = 1
            ring 600 = 2000
            plain 5 0 1 0 = 0
            fly 0 0 0 30 800 -1 = 2   // 600 away at tick 20
            ticks = 20
            ring 599 = 600
            fly 0 0 0 30 800 -1 = 4
            """);
    }

    private static void table() {
        Script.run(check, "promise 13", """
            table 0 0 = 0
            table 0 30 = 500
            table 0 67 = 921
            table 0 90 = 1000
            table 0 91 = 1000
            table 0 150 = 500
            table 0 180 = 0
            table 0 181 = -17
            table 0 270 = -1000
            table 0 330 = -500
            table 0 359 = -17
            table 1 0 = 1000
            table 1 60 = 500
            table 1 90 = 0
            table 1 91 = -17
            table 1 180 = -1000
            table 1 269 = -17
            table 1 270 = 0
            table 1 271 = 17
            table 1 359 = 1000
            table 0 -1 = BAD-10000
            table 0 360 = BAD-10000
            table -1 0 = BAD-10000
            table 2 0 = BAD-10000
            table MIN MAX = BAD-10000
            """);
        ThrowersBag bag = new ThrowersBag();
        for (int d = 0; d < 360; d++) {
            check.due("table(0, " + d + ")", bag.table(0, d), Math.round(1000 * Math.sin(Math.toRadians(d))));
            check.due("table(1, " + d + ")", bag.table(1, d), Math.round(1000 * Math.cos(Math.toRadians(d))));
        }
    }
}
