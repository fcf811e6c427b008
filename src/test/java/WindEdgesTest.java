/** Promises 8 to 13, sentence by sentence at their edges: wind, blows, swing, tree, ring, table. */
public final class WindEdgesTest {
    private static final Check check = new Check();

    public static void main(String[] args) {
        wind();
        blows();
        heightsOfParts();
        swing();
        swingRound();
        tree();
        ring();
        table();
        check.end();
    }

    private static void wind() {
        Script.run(check, "promise 8: its number; full: 8", """
            wind = 0
            wind = 1
            wind = 2
            wind = 3
            wind = 4
            wind = 5
            wind = 6
            count 2 = 7
            wind = 7
            count 2 = 8
            wind ! FULL
            count 2 = 8
            blows 8 0 1 1 ! BAD
            """);
        check.about("promise 8: of no speed");
        ThrowersBag bag = new ThrowersBag();
        for (int w = 0; w < 8; w++) {
            bag.wind();
            for (int band = 0; band < 4; band++) {
                check.due("blows(" + w + ", " + band + ", 60, 359)", bag.blows(w, band, 60, 359), 0);
            }
        }
    }

    private static final String TWO = """
        wind = 0
        wind = 1
        """;

    private static void blows() {
        Script.run(check, "promise 9: no wind", "blows 0 0 1 1 ! BAD");
        Script.run(check, "promise 9: a wind that there is", TWO + "blows [0..1] 0 5 5 ! BAD");
        Script.run(check, "promise 9: a wind of eight", "*8 wind\nblows [0..7] 3 60 359 ! BAD");
        Script.run(check, "promise 9: four parts", TWO + "blows 0 [0..3] 5 5 ! BAD");
        Script.run(check, "promise 9: a speed 0 .. 60", TWO + "blows 1 3 [0..60] 5 ! BAD");
        Script.run(check, "promise 9: to 0 .. 359", TWO + "blows 1 3 5 [0..359] ! BAD");
        Script.run(check, "promise 9: its speed was; a refused one leaves both", """
            plain 5 0 1 0 = 0
            wind = 0
            blows 0 0 60 359 = 0
            blows 0 0 61 180 ! BAD
            blows 0 0 30 360 ! BAD
            fly 0 0 0 100 800 0 = 4
            at 1 0 = -1            // 60 times SIN(359), -17, by 1000
            at 1 1 = 160
            blows 0 0 0 0 = 60
            blows 0 0 60 0 = 0
            """);
        Script.run(check, "promise 9: each part its own", TWO + """
            blows 0 0 1 0 = 0
            blows 0 1 2 0 = 0
            blows 0 2 3 0 = 0
            blows 0 3 4 0 = 0
            blows 1 0 5 0 = 0
            blows 0 0 0 0 = 1
            blows 0 1 0 0 = 2
            blows 0 2 0 0 = 3
            blows 0 3 0 0 = 4
            blows 1 3 0 0 = 0
            blows 1 0 0 0 = 5
            """);
    }

    /** Sticks that climb through an edge, with a wind that blows on one side of it alone. */
    private static void heightsOfParts() {
        String stick = "plain 10 0 1 10 = 0\nwind = 0\n";
        Script.run(check, "promise 9: heights below 200: 199 is", stick + """
            lift 0 1 20 = 0
            lift 0 0 40 = 0
            blows 0 0 60 90 = 0
            fly 0 0 0 60 1000 0 = 4
            at 6 2 = 186
            at 6 0 = 360
            at 7 2 = 199
            at 7 0 = 420
            at 8 2 = 214
            at 8 0 = 420
            """);
        Script.run(check, "promise 9: heights below 200: 200 is not, it is below 500", stick + """
            lift 0 1 30 = 0
            lift 0 0 60 = 0
            blows 0 1 60 90 = 0
            fly 0 0 0 60 1000 0 = 4
            at 4 2 = 182
            at 4 0 = 0
            at 5 2 = 200
            at 5 0 = 60
            """);
        Script.run(check, "promise 9: heights below 500: 499 is", """
            plain 33 0 1 10 = 0
            wind = 0
            lift 0 1 20 = 0
            lift 0 0 114 = 0
            blows 0 2 60 90 = 0
            fly 0 0 0 60 1000 0 = 4
            at 10 2 = 499
            at 10 0 = 0
            at 11 2 = 576
            at 11 0 = 60
            """);
        Script.run(check, "promise 9: heights below 500: 500 is not, it is below 1000", stick + """
            lift 0 1 30 = 0
            lift 0 0 200 = 0
            blows 0 2 60 90 = 0
            fly 0 0 0 60 1000 0 = 4
            at 6 2 = 420
            at 6 0 = 0
            at 7 2 = 500
            at 7 0 = 60
            """);
        Script.run(check, "promise 9: heights below 1000: 999 is", stick + """
            lift 0 1 60 = 0
            lift 0 0 110 = 0
            blows 0 3 60 90 = 0
            fly 0 0 0 60 1000 0 = 4
            at 15 2 = 999
            at 15 0 = 0
            at 16 2 = 1079
            at 16 0 = 60
            """);
        Script.run(check, "promise 9: heights below 1000: 1000 is of the others", stick + """
            lift 0 1 20 = 0
            lift 0 0 230 = 0
            blows 0 3 60 90 = 0
            fly 0 0 0 60 1000 0 = 4
            at 12 2 = 920
            at 12 0 = 0
            at 13 2 = 1000
            at 13 0 = 60
            """);
        Script.run(check, "promise 9: heights below 200: one below 0, too", """
            plain 90 0 1 0 = 0
            wind = 0
            blows 0 0 60 90 = 0
            fly 0 0 0 60 1000 0 = 1
            at 6 2 = -39
            at 6 0 = 360
            """);
    }

    private static void swing() {
        Script.run(check, "promise 10: no wind", "swing 0 1 ! BAD");
        Script.run(check, "promise 10: a wind that there is", TWO + "swing [0..1] 5 ! BAD");
        Script.run(check, "promise 10: a wind of eight", "*8 wind\nswing [0..7] 5 ! BAD");
        Script.run(check, "promise 10: degrees -359 .. 359", """
            wind = 0
            blows 0 0 60 10 = 0
            blows 0 1 60 100 = 0
            blows 0 2 60 190 = 0
            blows 0 3 60 280 = 0
            swing 0 [-359..359] ! BAD
            """);
        Script.run(check, "promise 10: the speeds stay", """
            wind = 0
            blows 0 0 1 0 = 0
            blows 0 1 2 0 = 0
            blows 0 2 3 0 = 0
            blows 0 3 60 0 = 0
            swing 0 77 = 1
            blows 0 0 0 0 = 1
            blows 0 1 0 0 = 2
            blows 0 2 0 0 = 3
            blows 0 3 0 0 = 60
            """);
    }

    /** From any degree by any degrees, below 0 and beyond 359: where a level stick is after a tick tells. */
    private static void swingRound() {
        check.about("promise 10: where it blows to goes round: 0 .. 359");
        int[][] swings = {
            {359, 1, 0}, {0, -1, 359}, {0, 359, 359}, {0, -359, 1}, {359, 359, 358}, {359, -359, 0}, {1, 359, 0},
            {1, -1, 0}, {1, -2, 359}, {358, 1, 359}, {358, 2, 0}, {358, 3, 1}, {180, 180, 0}, {180, 179, 359},
            {180, -180, 0}, {180, -181, 359}, {90, 0, 90}, {0, 0, 0}, {359, 0, 359}, {200, 300, 140}, {100, -300, 160}};
        for (int[] one : swings) {
            for (int band = 0; band < 4; band++) {
                String about = "to " + one[0] + " by " + one[1] + ", part " + band;
                ThrowersBag swung = rising(band, one[0]);
                check.due("swing, " + about, swung.swing(0, one[1]), 1);
                ThrowersBag told = rising(band, one[2]);
                check.due("fly, " + about, swung.fly(0, 0, 0, 60, 1000, 0), told.fly(0, 0, 0, 60, 1000, 0));
                check.due("x, " + about, swung.at(400, 0), told.at(400, 0));
                check.due("y, " + about, swung.at(400, 1), told.at(400, 1));
            }
        }
        check.is("a degree is seen", tellsDegrees());
    }

    /** A stick that rises through all heights; a wind in one part of them. */
    private static ThrowersBag rising(int band, int to) {
        ThrowersBag bag = new ThrowersBag();
        bag.plain(10, 0, 1, 10);
        bag.lift(0, 1, 30);
        bag.lift(0, 0, 40);
        bag.wind();
        bag.blows(0, band, 60, to);
        return bag;
    }

    private static boolean tellsDegrees() {
        int[] near = {358, 359, 0, 1, 2};
        for (int i = 1; i < near.length; i++) {
            for (int band = 0; band < 4; band++) {
                ThrowersBag one = rising(band, near[i - 1]);
                ThrowersBag other = rising(band, near[i]);
                one.fly(0, 0, 0, 60, 1000, 0);
                other.fly(0, 0, 0, 60, 1000, 0);
                if (one.at(400, 0) == other.at(400, 0)) {
                    return false;
                }
            }
        }
        return true;
    }

    private static void tree() {
        Script.run(check, "promise 11: x -9000 .. 9000", "tree [-9000..9000] 0 1 1 ! BAD");
        Script.run(check, "promise 11: y -9000 .. 9000", "tree 0 [-9000..9000] 1 1 ! BAD");
        Script.run(check, "promise 11: thick 1 .. 500", "tree 0 0 [1..500] 1 ! BAD");
        Script.run(check, "promise 11: high 1 .. 3000", "tree 0 0 1 [1..3000] ! BAD");
        Script.run(check, "promise 11: its number; full: 6", """
            tree 9000 9000 1 1 = 0
            tree -9000 9000 1 1 = 1
            tree 9000 -9000 1 1 = 2
            tree -9000 -9000 1 1 = 3
            tree 0 -9000 500 3000 = 4
            count 3 = 5
            tree 0 9000 500 3000 = 5
            count 3 = 6
            tree 0 300 1 300 ! FULL
            tree 0 0 0 1 ! BAD
            tree 9001 0 1 1 ! BAD
            tree 0 -9001 1 1 ! BAD
            tree 0 0 1 3001 ! BAD
            count 3 = 6
            """);
        Script.run(check, "promise 11: what is refused stands nowhere", """
            plain 5 0 1 0 = 0
            tree 0 500 0 3000 ! BAD
            tree 0 500 501 3000 ! BAD
            tree 0 500 500 3001 ! BAD
            tree 0 500 500 0 ! BAD
            fly 0 0 0 100 800 -1 = 4
            hit ! NONE
            tree 0 500 1 3000 = 0
            fly 0 0 0 100 800 -1 = 3
            hit = 0
            """);
        Script.run(check, "promise 11: at the furthest places, as thick and as high as can be", """
            plain 5 0 1 0 = 0
            tree -9000 -9000 500 3000 = 0
            tree 9000 9000 500 3000 = 1
            tree 9000 -9000 500 3000 = 2
            tree -9000 9000 500 3000 = 3
            fly 0 0 45 100 800 -1 = 3
            hit = 1
            fly 0 0 135 100 800 -1 = 3
            hit = 2
            fly 0 0 225 100 800 -1 = 3
            hit = 0
            fly 0 0 315 100 800 -1 = 3
            hit = 3
            at 123 0 = -8610      // 70 a tick: (390, 390) are 551 away, (320, 320) 452
            at 124 1 = 8680
            ticks = 124
            """);
    }

    private static void ring() {
        Script.run(check, "promise 12: wide 1 .. 2000", "ring [1..2000] ! BAD");
        Script.run(check, "promise 12: 300 at first; how wide it was", """
            ring 1 = 300
            ring 2000 = 1
            ring 0 ! BAD
            ring 2001 ! BAD
            ring 2000 = 2000
            ring 300 = 2000
            """);
        Script.run(check, "promise 12: 300 at first: no further away is caught", """
            plain 5 0 1 1 = 0
            wind = 0
            blows 0 0 60 180 = 0
            fly 0 0 0 200 800 0 = 2    // 330 away at tick 399, 290 at tick 400
            ticks = 400
            ring 330 = 300
            fly 0 0 0 200 800 0 = 2
            ticks = 399
            """);
        Script.run(check, "promise 12: 2000 is caught, 2001 is not", """
            plain 5 0 1 0 = 0
            ring 2000 = 300
            fly 0 0 0 100 800 -1 = 2   // 2000 away at tick 20
            ticks = 20
            fly 0 0 0 101 800 -1 = 4
            ring 1999 = 2000
            fly 0 0 0 100 800 -1 = 4
            """);
        // Out by 100, 99, .. and 60 back each tick: at tick 81 it is 0 away, at tick 80 40.
        Script.run(check, "promise 12: 1 wide", """
            plain 5 0 1 1 = 0
            wind = 0
            blows 0 0 60 180 = 0
            ring 1 = 300
            fly 0 0 0 100 800 0 = 2
            at 80 1 = 40
            at 81 1 = 0
            ticks = 81
            """);
    }

    private static void table() {
        Script.run(check, "promise 13: SIN (0), COS (1)", "table [0..1] 1 ! BAD-10000");
        Script.run(check, "promise 13: degrees 0 .. 359 of SIN", "table 0 [0..359] ! BAD-10000");
        Script.run(check, "promise 13: degrees 0 .. 359 of COS", "table 1 [0..359] ! BAD-10000");
        Script.run(check, "promise 13: SIN at its turns: to 90, to 180, to 359", """
            table 0 0 = 0
            table 0 1 = 17
            table 0 89 = 1000
            table 0 90 = 1000
            table 0 91 = 1000
            table 0 92 = 999
            table 0 88 = 999
            table 0 179 = 17
            table 0 180 = 0
            table 0 181 = -17
            table 0 269 = -1000
            table 0 270 = -1000
            table 0 271 = -1000
            table 0 272 = -999
            table 0 359 = -17
            """);
        Script.run(check, "promise 13: COS at its turns: SIN(d + 90), of 270 and more SIN(d - 270)", """
            table 1 0 = 1000
            table 1 1 = 1000
            table 1 2 = 999
            table 1 89 = 17
            table 1 90 = 0
            table 1 91 = -17
            table 1 179 = -1000
            table 1 180 = -1000
            table 1 181 = -1000
            table 1 269 = -17
            table 1 270 = 0
            table 1 271 = 17
            table 1 359 = 1000
            table 1 358 = 999
            """);
        Script.run(check, "promise 13: to the nearest whole number, up and down", """
            table 0 3 = 52     // 52.3
            table 0 4 = 70     // 69.8
            table 0 5 = 87     // 87.2
            table 0 45 = 707   // 707.1
            table 0 30 = 500
            table 0 183 = -52
            table 0 184 = -70
            table 0 225 = -707
            """);
    }
}
