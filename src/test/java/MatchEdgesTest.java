import java.util.Arrays;
import java.util.Random;

/** Promises 22 to 26, sentence by sentence at their edges: match, style, points, best, order. */
public final class MatchEdgesTest {
    private static final Check check = new Check();

    public static void main(String[] args) {
        match();
        style();
        numbersOfPoints();
        pointsNearBy();
        pointsNotBelow();
        pointsElse();
        best();
        order();
        orders();
        check.end();
    }

    /** On the ground at ticks 17, 12, 5: calm 6, 16, 30 points; against the wind 27, 31, 36. */
    private static final String THREE = """
        plain 10 0 1 0 = 0
        plain 20 0 1 0 = 1
        plain 100 0 1 0 = 2
        wind = 0
        wind = 1
        blows 0 0 60 180 = 0
        style 0 0 100 800 = 1
        """;

    private static void match() {
        Script.run(check, "promise 22: the i-th throw, 0 .. 4", THREE + """
            match 1 0 = -2
            match [0..4] -1 ! BAD-10
            match [0..4] 1 ! BAD-10
            match [0..4] -2 ! BAD-10
            """);
        Script.run(check, "promise 22: a wind, -1 none, -2 no such throw", THREE + """
            match 1 0 = -2
            match 0 [-2..1] ! BAD-10
            match 1 [-2..1] ! BAD-10
            """);
        Script.run(check, "promise 22: of no winds -1 and -2 alone", "match 0 [-2..-1] ! BAD-10");
        Script.run(check, "promise 22: a wind of eight", "*8 wind\nmatch 4 [-2..7] ! BAD-10");
        Script.run(check, "promise 22: what it was: -2 at first, after it was told, after it was taken back", """
            *8 wind
            match 0 7 = -2
            match 0 0 = 7
            match 0 -1 = 0
            match 0 8 ! BAD-10
            match 0 -3 ! BAD-10
            match 0 -2 = -1
            match 0 -2 = -2
            match 4 -1 = -2
            match 5 -1 ! BAD-10
            match -1 -1 ! BAD-10
            match 4 7 = -1
            """);
        Script.run(check, "promise 22: up to 5 throws", """
            match 0 -1 = -2
            match 1 -1 = -2
            match 2 -1 = -2
            match 3 -1 = -2
            count 5 = 4
            match 4 -1 = -2
            count 5 = 5
            match 5 -1 ! BAD-10
            count 5 = 5
            """);
    }

    private static void style() {
        String told = THREE + "match 0 -1 = -2\nstyle 10 90 100 800 = 1\n";
        Script.run(check, "promise 23: lean 0 .. 90", told + "style [0..90] 0 100 800 ! BAD");
        Script.run(check, "promise 23: angle 0 .. 359", told + "style 0 [0..359] 100 800 ! BAD");
        Script.run(check, "promise 23: strength 30 .. 250", told + "style 0 0 [30..250] 800 ! BAD");
        Script.run(check, "promise 23: spin 100 .. 1000", told + "style 0 0 100 [100..1000] ! BAD");
        Script.run(check, "promise 23: the style of all throws, from then on", THREE + """
            match 0 -1 = -2
            match 4 -1 = -2
            best = 46              // 16 and 30
            style 0 0 30 100 = 1
            best = 70              // 30 (510 away, 40 less 10), 33 (360, 7), 37 (150, 3)
            style 0 0 29 100 ! BAD
            best = 70
            """);
        Script.run(check, "promise 24: at first 45, 0, 120, 800: a refused one leaves that", """
            plain 50 0 1 0 = 0
            lift 0 2 88 = 0
            ring 1200 = 300
            wind = 0
            blows 0 0 60 180 = 0
            points 0 0 = 50
            style 46 0 120 99 ! BAD
            style 91 0 119 800 ! BAD
            points 0 0 = 50
            """);
    }

    private static void numbersOfPoints() {
        Script.run(check, "promise 24: no stick", "points 0 -1 ! BAD\nwind = 0\npoints 0 0 ! BAD");
        Script.run(check, "promise 24: a stick that there is", THREE + """
            points [0..2] -1 ! BAD
            points [0..2] 1 ! BAD
            """);
        Script.run(check, "promise 24: a stick of nine", "*9 plain 10 0 1 0\npoints [0..8] -1 ! BAD");
        Script.run(check, "promise 24: a wind, or -1: none", THREE + "points 2 [-1..1] ! BAD");
        Script.run(check, "promise 24: of no winds -1 alone", "plain 10 0 1 0 = 0\npoints 0 [-1..-1] ! BAD");
        Script.run(check, "promise 24: of a lost one, too", THREE + """
            lose 2 true = 1
            points 2 -1 = 30
            """);
    }

    /** Weight 100 is on the ground at tick 5; the wind takes 60 a tick off y. */
    private static void pointsNearBy() {
        Script.run(check, "promise 24: 40 less its distance by 50: 0, 45, 49 and 50 away", THREE + """
            style 0 0 60 800 = 1
            points 2 0 = 40
            style 0 0 69 800 = 1
            points 2 0 = 40        // 45
            style 0 4 70 800 = 1
            points 2 0 = 40        // 20, 45: 49.2
            style 0 5 69 800 = 1
            points 2 0 = 39        // 30, 40: 50
            style 0 0 70 800 = 1
            points 2 0 = 39        // 50
            style 0 0 79 800 = 1
            points 2 0 = 39        // 95
            style 0 0 80 800 = 1
            points 2 0 = 38        // 100
            """);
        Script.run(check, "promise 24: distance on all sides of 0, 0", THREE + """
            style 0 0 50 800 = 1
            points 2 0 = 39        // y -50
            style 0 90 50 800 = 1
            points 2 -1 = 35
            style 0 270 50 800 = 1
            points 2 -1 = 35
            style 0 180 50 800 = 1
            points 2 -1 = 35
            """);
    }

    /** Weight 30 is on the ground at tick 10. */
    private static void pointsNotBelow() {
        Script.run(check, "promise 24: not below 0: 1990, 2000, 2040, 2050, 2500 away", """
            plain 30 0 1 0 = 0
            style 0 0 199 800 = 1
            points 0 -1 = 1
            style 0 0 200 800 = 1
            points 0 -1 = 0
            style 0 0 204 800 = 1
            points 0 -1 = 0
            style 0 0 205 800 = 1
            points 0 -1 = 0
            style 0 0 250 800 = 1
            points 0 -1 = 0
            fly 0 0 0 250 800 -1 = 1
            ticks = 10
            """);
        // Level until the spin is below 100, then on the ground: far away.
        Script.run(check, "promise 24: not below 0: squares beyond an int", """
            plain 10 0 2 0 = 0
            lift 0 3 100 = 0
            fly 0 0 90 250 240 -1 = 1
            style 0 90 250 240 = 1
            points 0 -1 = 0
            """);
    }

    private static void pointsElse() {
        Script.run(check, "promise 24: 50 in the hand; else 0: in a tree, out of sight", """
            plain 5 0 1 0 = 0
            style 0 0 30 800 = 1
            points 0 -1 = 0
            ring 599 = 300
            points 0 -1 = 0
            ring 600 = 599
            points 0 -1 = 50
            tree 0 600 1 149 = 0
            points 0 -1 = 50
            tree 0 600 1 150 = 1
            points 0 -1 = 0
            """);
        Script.run(check, "promise 24: in a tree where the ground is: 0", """
            plain 100 0 1 0 = 0
            style 0 0 100 800 = 1
            points 0 -1 = 30
            tree 0 500 1 1 = 0
            points 0 -1 = 0
            """);
    }

    private static void best() {
        Script.run(check, "promise 25: it has no throw", THREE + """
            best ! NOT
            match 3 -1 = -2
            best = 30
            match 3 -2 = -1
            best ! NOT
            """);
        Script.run(check, "promise 25: as many sticks in the bag, one fewer, none", THREE + """
            match 0 -1 = -2
            match 2 0 = -2
            match 4 -1 = -2
            best = 73              // 16, 27, 30
            lose 0 true = 1
            best ! NONE
            lose 1 true = 1
            lose 2 true = 1
            best ! NONE
            match 0 -2 = -1
            match 2 -2 = 0
            lose 1 false = 0
            best = 16
            lose 1 true = 1
            best ! NONE
            """);
        Script.run(check, "promise 25: NOT is named ahead of NONE", """
            best ! NOT
            match 0 -1 = -2
            best ! NONE
            plain 100 0 1 0 = 0
            lose 0 true = 1
            best ! NONE
            match 0 -2 = -1
            best ! NOT
            """);
        Script.run(check, "promise 25: five throws, four sticks and five", """
            *4 plain 100 0 1 0
            style 0 0 100 800 = 1
            match 0 -1 = -2
            match 1 -1 = -2
            match 2 -1 = -2
            match 3 -1 = -2
            best = 120
            match 4 -1 = -2
            best ! NONE
            plain 100 0 1 0 = 4
            best = 150
            """);
        Script.run(check, "promise 25: each with another stick", """
            plain 100 0 1 0 = 0
            plain 5 0 1 0 = 1
            style 0 0 100 800 = 1
            match 0 -1 = -2
            match 1 -1 = -2
            best = 30              // and not twice 30
            order 0 = 0
            order 1 = 1
            """);
        Script.run(check, "promise 25: all come back: 250", """
            *5 plain 5 0 1 0
            ring 2000 = 300
            style 0 0 100 800 = 1
            match 0 -1 = -2
            match 1 -1 = -2
            match 2 -1 = -2
            match 3 -1 = -2
            match 4 -1 = -2
            best = 250
            """);
    }

    private static void order() {
        Script.run(check, "promise 26: i 0 .. 4", """
            *5 plain 100 0 1 0
            match 0 -1 = -2
            match 1 -1 = -2
            match 2 -1 = -2
            match 3 -1 = -2
            match 4 -1 = -2
            order [0..4] ! BAD
            """);
        Script.run(check, "promise 26: no such throw", THREE + """
            order 0 ! BAD
            match 1 -1 = -2
            match 3 0 = -2
            order 0 ! BAD
            order 2 ! BAD
            order 4 ! BAD
            order 1 = 2
            order 3 = 1
            match 1 -2 = -1
            order 1 ! BAD
            """);
        Script.run(check, "promise 26: NONE as best(), BAD ahead of it", THREE + """
            match 0 -1 = -2
            match 1 -1 = -2
            match 3 0 = -2
            lose 0 true = 1
            order 0 ! NONE
            order 1 ! NONE
            order 3 ! NONE
            order 2 ! BAD
            order 4 ! BAD
            order 5 ! BAD
            order -1 ! BAD
            """);
        Script.run(check, "promise 26: a throw in no wind is a throw, too", THREE + """
            match 0 -1 = -2
            order 0 = 2
            """);
    }

    /** By points() alone: all orders are tried, those with the lesser numbers first. */
    private static void orders() {
        check.about("promises 25, 26: the most points together, of such the first by numbers");
        int alike = 0;
        for (int seed = 0; seed < 120; seed++) {
            Tried tried = new Tried(seed);
            tried.all(0, 0, 0);
            int due = tried.throwCount() == 0 ? ThrowersBag.NOT : tried.most < 0 ? ThrowersBag.NONE : tried.most;
            check.due("best(), bag " + seed, tried.bag.best(), due);
            for (int i = 0; i < 5; i++) {
                int dueOrder = tried.winds[i] == -2 ? ThrowersBag.BAD : tried.most < 0 ? ThrowersBag.NONE : tried.first[i];
                check.due("order(" + i + "), bag " + seed, tried.bag.order(i), dueOrder);
            }
            alike += tried.alike > 0 ? 1 : 0;
        }
        check.is("there are bags with orders that are alike: " + alike, alike > 20);
    }

    private static final class Tried {
        final ThrowersBag bag = new ThrowersBag();
        final int[] winds = new int[5];
        final int[][] points = new int[5][9];
        final boolean[] inTheBag = new boolean[9];
        final int[] now = new int[5];
        int[] first = null;
        int most = -1;
        int alike = 0;

        Tried(int seed) {
            Random random = new Random(seed);
            int sticks = 2 + random.nextInt(8);
            bag.wind();
            bag.blows(0, 0, 60, 180);
            bag.ring(500 + random.nextInt(1000));
            bag.style(0, 0, 60 + random.nextInt(60), 800);
            for (int s = 0; s < sticks; s++) {
                bag.plain(random.nextInt(3) == 0 ? 5 : 10 + 10 * random.nextInt(9), 0, 1, 0);
                inTheBag[s] = random.nextInt(6) != 0;
                bag.lose(s, !inTheBag[s]);
            }
            for (int i = 0; i < 5; i++) {
                winds[i] = random.nextInt(5) == 0 ? -2 : random.nextInt(2) - 1;
                bag.match(i, winds[i]);
                for (int s = 0; s < sticks && winds[i] != -2; s++) {
                    points[i][s] = bag.points(s, winds[i]);
                }
            }
        }

        int throwCount() {
            return (int) Arrays.stream(winds).filter(w -> w != -2).count();
        }

        void all(int i, int used, int sum) {
            if (i == 5) {
                alike = sum > most ? 0 : sum == most ? alike + 1 : alike;
                first = sum > most ? now.clone() : first;
                most = Math.max(most, sum);
                return;
            }
            if (winds[i] == -2) {
                all(i + 1, used, sum);
                return;
            }
            for (int s = 0; s < 9; s++) {
                if (inTheBag[s] && (used >> s & 1) == 0) {
                    now[i] = s;
                    all(i + 1, used | 1 << s, sum + points[i][s]);
                }
            }
        }
    }
}
