/** Promises 14 to 17: fly, at, ticks, hit. */
public final class ThrowsTest {
    private static final Check check = new Check();

    public static void main(String[] args) {
        wrongThrows();
        at();
        ticks();
        hit();
        level();
        falling();
        lifts();
        climbIsHeld();
        turns();
        floors();
        caught();
        heightsOfTheHand();
        treesFirst();
        atTheLastTick();
        check.end();
    }

    private static void wrongThrows() {
        Script.run(check, "promise 14: ranges", """
            fly 0 0 0 100 800 -1 = BAD
            plain 5 0 1 0 = 0
            fly -1 0 0 100 800 -1 = BAD
            fly 1 0 0 100 800 -1 = BAD
            fly 0 -1 0 100 800 -1 = BAD
            fly 0 91 0 100 800 -1 = BAD
            fly 0 0 -1 100 800 -1 = BAD
            fly 0 0 360 100 800 -1 = BAD
            fly 0 0 0 29 800 -1 = BAD
            fly 0 0 0 251 800 -1 = BAD
            fly 0 0 0 100 99 -1 = BAD
            fly 0 0 0 100 1001 -1 = BAD
            fly 0 0 0 100 800 -2 = BAD
            fly 0 0 0 100 800 0 = BAD
            fly MAX MIN MAX MIN MAX MIN = BAD
            ticks = 0
            at 0 0 = BAD-100000
            fly 0 0 0 30 100 -1 = 4
            fly 0 90 359 250 1000 -1 = 4
            lose 0 true = 1
            fly 0 0 0 30 800 -1 = 4   // a lost one flies, too
            wind = 0
            fly 0 0 0 30 800 0 = 4
            """);
    }

    private static void at() {
        Script.run(check, "promise 15", """
            at 0 0 = BAD-100000
            plain 5 0 1 0 = 0
            fly 0 45 90 100 800 -1 = 4
            at 0 0 = 0
            at 0 1 = 0
            at 0 2 = 150
            at 0 3 = 0
            at 0 4 = 9000
            at 0 5 = 100
            at 0 6 = 800
            at 0 7 = 45
            at 400 0 = 40000
            at 401 0 = BAD-100000
            at -1 0 = BAD-100000
            at 0 -1 = BAD-100000
            at 0 8 = BAD-100000
            at MAX MAX = BAD-100000
            at MIN 0 = BAD-100000
            fly 0 91 90 100 800 -1 = BAD   // not the latest
            at 400 0 = 40000
            plain 100 0 1 0 = 1
            fly 1 0 180 30 800 -1 = 1      // a shorter one hides the longer
            at 5 1 = -150
            at 6 1 = BAD-100000
            """);
        Script.run(check, "promise 15: other calls fly without being the latest fly()", """
            plain 5 0 1 0 = 0
            plain 100 0 1 0 = 1
            wind = 0
            fly 0 0 90 100 800 -1 = 4
            choose 2 1 = 0
            keep 0 1 0 0 100 800 -1 = 1
            keep 1 0 0 0 100 800 -1 = 1
            two 1 = NONE
            points 1 -1 = 28
            match 0 -1 = -2
            best = 28
            order 0 = 1
            row 1 0 0 100 800 0 500 = 0
            miss 0 0 = 0
            explain 1 = 0
            sure 1 = 0
            ticks = 400
            at 400 0 = 40000
            at 1 1 = 0
            """);
    }

    private static void ticks() {
        Script.run(check, "promise 16", """
            ticks = 0
            plain 10 0 1 0 = 0
            fly 0 0 0 100 800 -1 = 1
            ticks = 17
            fly 0 0 0 100 99 -1 = BAD
            ticks = 17
            plain 5 0 1 0 = 1
            fly 1 0 0 100 800 -1 = 4
            ticks = 400
            """);
    }

    private static void hit() {
        Script.run(check, "promise 17", """
            hit = NONE
            plain 5 0 1 0 = 0
            tree 0 -9000 1 1 = 0
            tree 1000 0 1 3000 = 1
            fly 0 0 90 100 800 -1 = 3
            hit = 1
            fly 0 0 90 100 99 -1 = BAD
            hit = 1
            fly 0 0 0 100 800 -1 = 4
            hit = NONE
            """);
    }

    /** Weight below 10 and no lift: no climb; no grip: no turn; no drag: the same way each tick. */
    private static void level() {
        Script.run(check, "a level throw", """
            plain 9 0 2 0 = 0
            fly 0 10 181 100 800 -1 = 4
            at 1 0 = -1      // 100 times -17 by 1000, cut toward 0
            at 1 1 = -100
            at 1 2 = 150
            at 1 3 = 0
            at 1 4 = 18100
            at 1 5 = 100
            at 1 6 = 798
            at 1 7 = 10
            at 3 7 = 10
            at 4 7 = 9
            at 7 7 = 9
            at 8 7 = 8
            at 40 7 = 0
            at 44 7 = 0
            at 400 0 = -400
            at 400 1 = -40000
            at 400 6 = 0
            fly 0 0 90 250 800 -1 = 4   // squares beyond an int
            at 400 0 = 100000
            ticks = 400
            """);
    }

    private static void falling() {
        Script.run(check, "a falling throw", """
            plain 10 0 1 0 = 0
            fly 0 0 0 100 800 -1 = 1
            ticks = 17
            at 16 2 = 14
            at 17 2 = -3
            at 17 3 = -17
            at 17 1 = 1700
            plain 19 0 1 0 = 1       // 19 by 10, cut toward 0
            fly 1 0 0 100 800 -1 = 1
            ticks = 17
            plain 100 0 1 0 = 2      // height 0 is on the ground
            fly 2 0 0 100 800 -1 = 1
            ticks = 5
            at 5 2 = 0
            at 4 2 = 50
            """);
    }

    private static void lifts() {
        Script.run(check, "lift of spin and lean", """
            plain 10 0 1 0 = 0
            lift 0 1 125 = 0
            fly 0 0 0 100 801 -1 = 4    // 125 times 801 by 1000: 100
            at 1 3 = 9
            fly 0 60 0 100 801 -1 = 4   // 100 times 500 by 1000
            at 1 3 = 4
            fly 0 90 0 100 801 -1 = 1   // COS(90) is 0, then COS(89) 17
            at 4 3 = -4
            at 5 3 = -4                 // 1 less 10, by 10: cut toward 0
            """);
        Script.run(check, "a plain stick, spin below 100", """
            plain 10 0 1 0 = 0
            lift 0 1 300 = 0
            fly 0 0 0 100 100 -1 = 1
            at 1 3 = 2
            at 2 3 = 1
            at 3 3 = 0
            """);
        Script.run(check, "a winged stick, spin below 300", """
            winged 10 0 1 0 200 = 0
            fly 0 0 0 100 300 -1 = 4
            at 1 3 = -1
            at 2 3 = 18
            fly 0 60 0 100 299 -1 = 4   // the hover leans, too
            at 1 3 = 9
            lift 0 1 300 = 0
            winged 10 0 20 0 50 = 1
            lift 1 1 300 = 0
            fly 1 0 0 100 100 -1 = 4
            at 1 3 = 7                  // 30 and 50, less 10
            at 2 3 = 13                 // 24 and 50, less 10
            at 5 3 = 27
            at 6 3 = 31                 // of spin 0: 50, less 10
            """);
    }

    private static void climbIsHeld() {
        Script.run(check, "climb within -80 .. 80", """
            plain 100 0 20 0 = 0
            lift 0 3 300 = 0
            fly 0 0 0 250 1000 -1 = 1
            at 1 3 = 20
            at 5 3 = 80
            at 6 3 = 80
            """);
        ThrowersBag bag = new ThrowersBag();
        bag.plain(100, 0, 20, 0);
        bag.lift(0, 3, 300);
        check.due("fly", bag.fly(0, 0, 0, 250, 1000, -1), 1);
        int least = 0;
        int held = 0;
        for (int tick = 1; tick <= bag.ticks(); tick++) {
            least = Math.min(least, bag.at(tick, 3));
            held += bag.at(tick, 3) == -80 ? 1 : 0;
            check.due("the height is the climb more", bag.at(tick, 2), bag.at(tick - 1, 2) + bag.at(tick, 3));
        }
        check.due("the least climb", least, -80);
        check.is("it falls so for more than a tick", held > 1);
    }

    private static void turns() {
        Script.run(check, "the way", """
            plain 5 60 20 0 = 0
            fly 0 90 359 30 1000 -1 = 4
            at 0 4 = 35900
            at 1 4 = 500            // 600 more, round
            at 2 4 = 1088           // 60 times 980 times 1000 by 100000
            at 1 0 = 2              // 30 times SIN(5) by 1000
            at 1 1 = 29
            bend 0 9 = 0
            fly 0 30 0 30 333 -1 = 4
            at 1 4 = 114            // 69 times 333 times 500 by 100000
            plain 5 0 1 0 = 1
            bend 1 -7 = 0
            fly 1 30 0 30 333 -1 = 4
            at 1 4 = 35989          // 11 less, cut toward 0
            at 1 0 = 0              // 30 times SIN(359) by 1000, cut toward 0
            """);
    }

    private static void floors() {
        Script.run(check, "speed not below 20, spin and lean not below 0", """
            plain 5 0 20 10 = 0
            fly 0 1 0 35 110 -1 = 4
            at 1 5 = 25
            at 2 5 = 20
            at 3 5 = 20
            at 1 1 = 35
            at 2 1 = 60
            at 3 1 = 80
            at 5 6 = 10
            at 6 6 = 0
            at 7 6 = 0
            at 3 7 = 1
            at 4 7 = 0
            at 8 7 = 0
            """);
    }

    private static void caught() {
        Script.run(check, "in the hand from tick 20 on", """
            plain 5 0 1 0 = 0
            ring 600 = 300
            fly 0 0 0 30 800 -1 = 2
            ticks = 20
            at 20 1 = 600
            fly 0 0 180 30 800 -1 = 2
            fly 0 0 45 30 800 -1 = 2     // 21 by x, 21 by y
            at 20 0 = 420
            fly 0 0 0 31 800 -1 = 4
            """);
    }

    /** A climb of 5 (or -5) from tick 1 on, by a lift for the first speed alone. */
    private static void heightsOfTheHand() {
        Script.run(check, "height 50 is caught", """
            ring 2000 = 300
            plain 50 0 1 1 = 0
            lift 0 0 50 = 0
            fly 0 0 0 60 1000 -1 = 2
            ticks = 20
            at 20 2 = 50
            """);
        Script.run(check, "height 49 is not", """
            ring 2000 = 300
            plain 50 0 10 1 = 0
            lift 0 0 50 = 0
            fly 0 0 0 60 1000 -1 = 1
            at 20 2 = 49
            """);
        Script.run(check, "height 250 is caught", """
            ring 2000 = 300
            plain 50 0 1 1 = 0
            lift 0 1 100 = 0
            lift 0 0 50 = 0
            fly 0 0 0 60 1000 -1 = 2
            ticks = 20
            at 20 2 = 250
            """);
        Script.run(check, "height 251 is not", """
            ring 2000 = 300
            winged 40 0 1 1 15 = 0
            lift 0 1 300 = 0
            lift 0 0 130 = 0
            fly 0 0 0 60 318 -1 = 1
            at 20 2 = 251
            """);
    }

    private static void treesFirst() {
        Script.run(check, "a tree ahead of the ground", """
            plain 10 0 1 0 = 0
            tree 0 1700 1 1 = 0
            fly 0 0 0 100 800 -1 = 3
            ticks = 17
            at 17 2 = -3
            hit = 0
            """);
        Script.run(check, "a tree ahead of the hand", """
            plain 5 0 1 0 = 0
            ring 600 = 300
            tree 0 600 1 150 = 0
            fly 0 0 0 30 800 -1 = 3
            ticks = 20
            """);
        Script.run(check, "a tree where it begins is met at tick 1", """
            plain 5 0 1 0 = 0
            tree 0 0 500 150 = 0
            fly 0 0 0 30 800 -1 = 3
            ticks = 1
            """);
    }

    /** Out against a wind that brings it back: 330 away at tick 399, 290 at tick 400. */
    private static void atTheLastTick() {
        String outAndBack = """
            plain 5 0 1 1 = 0
            wind = 0
            blows 0 0 60 180 = 0
            """;
        Script.run(check, "in the hand at tick 400", outAndBack + """
            fly 0 0 0 200 800 0 = 2
            ticks = 400
            at 399 1 = 330
            at 400 1 = 290
            ring 290 = 300
            fly 0 0 0 200 800 0 = 2
            ring 289 = 290
            fly 0 0 0 200 800 0 = 4
            ticks = 400
            tree 0 290 1 150 = 0
            fly 0 0 0 200 800 0 = 3
            ticks = 400
            """);
    }
}
