/** Promises 22 to 26: match, style, points, best, order. */
public final class MatchesTest {
    private static final Check check = new Check();

    public static void main(String[] args) {
        match();
        style();
        styleAtFirst();
        points();
        wholeRoots();
        best();
        bestNot();
        likeOrders();
        fiveThrows();
        order();
        check.end();
    }

    private static void match() {
        Script.run(check, "promise 22", """
            match 0 -1 = -2
            match 0 -2 = -1
            match 0 -2 = -2
            match 0 0 = BAD-10
            wind = 0
            wind = 1
            match 4 1 = -2
            match 4 0 = 1
            match 4 2 = BAD-10
            match 4 -3 = BAD-10
            match -1 0 = BAD-10
            match 5 0 = BAD-10
            match MIN MIN = BAD-10
            match 4 -1 = 0
            match 3 -1 = -2
            count 5 = 2
            match 4 -2 = -1
            count 5 = 1
            """);
    }

    private static void style() {
        Script.run(check, "promise 23", """
            plain 10 0 1 0 = 0
            points 0 -1 = 0           // at first 120: 2040 away
            style -1 0 100 800 = BAD
            style 91 0 100 800 = BAD
            style 0 -1 100 800 = BAD
            style 0 360 100 800 = BAD
            style 0 0 29 800 = BAD
            style 0 0 251 800 = BAD
            style 0 0 100 99 = BAD
            style 0 0 100 1001 = BAD
            style MAX MIN MAX MIN = BAD
            points 0 -1 = 0
            style 0 0 100 800 = 1
            points 0 -1 = 6
            style 0 0 29 800 = BAD
            points 0 -1 = 6
            style 0 0 30 100 = 1
            points 0 -1 = 30
            style 90 359 250 1000 = 1
            points 0 -1 = 0
            """);
        // Only a lean of 45, a spin of 800, an angle of 0 keep it level, and against the wind.
        Script.run(check, "promises 23, 24: the style at first", """
            plain 50 0 1 0 = 0
            lift 0 2 88 = 0
            ring 1200 = 300
            wind = 0
            blows 0 0 60 180 = 0
            points 0 0 = 50
            points 0 -1 = 0
            style 45 0 121 800 = 1
            points 0 0 = 0
            style 45 0 120 800 = 1
            points 0 0 = 50
            style 45 1 120 800 = 1
            points 0 0 = 0
            style 20 0 120 800 = 1
            points 0 0 = 0
            style 45 0 120 1000 = 1
            points 0 0 = 0
            """);
    }

    /**
     * A tree at the first tick's place, and a lift for the first tick alone: a little more (or less) of lean
     * or spin, and it is one higher (or lower) there.
     */
    private static void styleAtFirst() {
        Script.run(check, "promise 24: spin 800, no more", """
            plain 99 0 1 10 = 0
            lift 0 2 246 = 0     // 196 times COS(45), less 99: 39; of spin 801 40
            tree 0 120 1 153 = 0
            points 0 -1 = 0
            style 45 0 120 800 = 1
            points 0 -1 = 0
            fly 0 45 0 120 800 -1 = 3
            at 1 2 = 153
            style 45 0 120 801 = 1
            points 0 -1 = 28
            """);
        Script.run(check, "promise 24: spin 800, no less", """
            plain 60 0 1 10 = 0
            lift 0 2 125 = 0     // 100 times COS(45), less 60: 10; of spin 799 9
            tree 0 120 1 150 = 0
            points 0 -1 = 27     // 680 away
            style 45 0 120 799 = 1
            points 0 -1 = 0
            style 46 0 120 800 = 1
            points 0 -1 = 0
            """);
    }

    /** Weight 10 is on the ground at tick 17. */
    private static void points() {
        Script.run(check, "promise 24", """
            points 0 -1 = BAD
            plain 10 0 1 0 = 0
            points 1 -1 = BAD
            points -1 -1 = BAD
            points 0 0 = BAD
            points 0 -2 = BAD
            points MIN MAX = BAD
            style 0 0 100 800 = 1
            points 0 -1 = 6           // 1700 away
            style 0 90 100 800 = 1
            points 0 -1 = 6
            style 0 180 117 800 = 1   // 1989 away: 39
            points 0 -1 = 1
            style 0 0 118 800 = 1     // 2006 away: 40
            points 0 -1 = 0
            style 0 0 250 800 = 1     // 4250 away
            points 0 -1 = 0
            wind = 0
            blows 0 0 60 180 = 0
            style 0 0 100 800 = 1
            points 0 0 = 27           // 680 away
            lose 0 true = 1
            points 0 0 = 27
            tree 0 680 1 1 = 0
            points 0 0 = 0            // in a tree
            plain 5 0 1 0 = 1
            points 1 0 = 0            // out of sight
            ring 800 = 300
            points 1 0 = 50
            points 1 -1 = 0
            ticks = 0
            """);
    }

    /** Against wholes: throws whose distance is just below a multiple of 50, and not a whole number. */
    private static void wholeRoots() {
        check.about("promise 24: the whole root");
        int near = 0;
        for (int strength = 30; strength <= 120; strength++) {
            for (int angle = 1; angle < 90; angle++) {
                ThrowersBag bag = new ThrowersBag();
                bag.plain(10, 0, 1, 0);
                bag.style(0, angle, strength, 800);
                bag.fly(0, 0, angle, strength, 800, -1);
                double away = Math.hypot(bag.at(17, 0), bag.at(17, 1));
                near += away % 50 > 49.5 ? 1 : 0;
                int due = Math.max(0, 40 - (int) Math.floor(away + 1e-9) / 50);
                if (bag.points(0, -1) != due) {
                    check.due("points " + strength + " " + angle, bag.points(0, -1), due);
                }
            }
        }
        check.is("some were near", near > 10);
    }

    /** On the ground at ticks 17, 12, 5: calm 6, 16, 30 points; against the wind 27, 31, 36. */
    private static final String THREE = """
        plain 10 0 1 0 = 0
        plain 20 0 1 0 = 1
        plain 100 0 1 0 = 2
        wind = 0
        blows 0 0 60 180 = 0
        style 0 0 100 800 = 1
        points 0 -1 = 6
        points 1 -1 = 16
        points 2 -1 = 30
        points 0 0 = 27
        points 1 0 = 31
        points 2 0 = 36
        """;

    private static void best() {
        Script.run(check, "promises 25, 26: the most points", THREE + """
            match 0 -1 = -2
            best = 30
            order 0 = 2
            match 3 0 = -2
            best = 61
            order 0 = 2
            order 3 = 1
            match 0 0 = -1
            match 3 -1 = 0
            best = 61
            order 0 = 1
            order 3 = 2
            match 1 0 = -2
            best = 88             // 27, 31, 30: the calm throw is the heavy one's
            order 0 = 0
            order 1 = 1
            order 3 = 2
            lose 2 true = 1
            match 1 -2 = 0
            best = 43             // 27 and 16, not 31 and 6
            order 0 = 0
            order 3 = 1
            """);
    }

    private static void bestNot() {
        Script.run(check, "promises 25, 26: not, none", THREE + """
            best = NOT
            order 0 = BAD
            match 0 -1 = -2
            match 1 -1 = -2
            match 2 -1 = -2
            best = 52
            match 4 0 = -2
            best = NONE
            order 0 = NONE
            order 3 = BAD
            order 5 = BAD
            match 4 -2 = 0
            lose 1 true = 1
            best = NONE
            order 2 = NONE
            lose 1 false = 0
            best = 52
            match 0 -2 = -1
            match 1 -2 = -1
            match 2 -2 = -1
            best = NOT
            lose 0 true = 1
            lose 1 true = 1
            lose 2 true = 1
            best = NOT
            match 0 -1 = -2
            best = NONE
            """);
        Script.run(check, "promise 25: no sticks", """
            match 0 -1 = -2
            best = NONE
            order 0 = NONE
            """);
    }

    private static void likeOrders() {
        Script.run(check, "promise 26: of like orders the first by numbers", """
            *4 plain 10 0 1 0
            style 0 0 100 800 = 1
            match 1 -1 = -2
            match 2 -1 = -2
            match 4 -1 = -2
            best = 18
            order 1 = 0
            order 2 = 1
            order 4 = 2
            lose 0 true = 1
            order 1 = 1
            order 2 = 2
            order 4 = 3
            """);
        // 0 and 2 like, 1 is better: 0 stays ahead of 2 wherever 1 is worth the same.
        Script.run(check, "promise 26: of like orders the first, one better", """
            plain 10 0 1 0 = 0
            plain 100 0 1 0 = 1
            plain 10 0 1 0 = 2
            style 0 0 100 800 = 1
            match 0 -1 = -2
            match 1 -1 = -2
            best = 36
            order 0 = 0
            order 1 = 1
            """);
        Script.run(check, "promise 26: no points at all", """
            *9 plain 5 0 1 0
            match 0 -1 = -2
            match 1 -1 = -2
            match 2 -1 = -2
            match 3 -1 = -2
            match 4 -1 = -2
            best = 0
            order 0 = 0
            order 1 = 1
            order 2 = 2
            order 3 = 3
            order 4 = 4
            """);
    }

    private static void fiveThrows() {
        Script.run(check, "promises 25, 26: five throws of nine sticks", """
            *4 plain 5 0 1 0
            *5 plain 100 0 1 0
            style 0 0 100 800 = 1
            wind = 0
            blows 0 0 60 180 = 0
            match 0 -1 = -2
            match 1 0 = -2
            match 2 -1 = -2
            match 3 0 = -2
            match 4 0 = -2
            best = 168            // twice 30, three times 36
            order 0 = 4
            order 1 = 5
            order 2 = 6
            order 3 = 7
            order 4 = 8
            ring 800 = 300        // the level ones come back against the wind
            best = 210
            order 0 = 4
            order 1 = 0
            order 2 = 5
            order 3 = 1
            order 4 = 2
            """);
    }

    private static void order() {
        Script.run(check, "promise 26: wrong ones", THREE + """
            match 2 -1 = -2
            order -1 = BAD
            order 5 = BAD
            order 0 = BAD
            order 1 = BAD
            order 3 = BAD
            order MIN = BAD
            order MAX = BAD
            order 2 = 2
            """);
    }
}
