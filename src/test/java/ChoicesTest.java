/** Promises 18 to 21: choose, chosen, keep, two. */
public final class ChoicesTest {
    private static final Check check = new Check();

    public static void main(String[] args) {
        wrongChoices();
        mostWinds();
        firstOfLikeOnes();
        leanAndStrength();
        bagAndSets();
        keep();
        two();
        twoNot();
        twoAsTold();
        check.end();
    }

    private static void wrongChoices() {
        Script.run(check, "promises 18, 19: wrong ones", """
            choose 1 1 = BAD
            plain 5 0 1 0 = 0
            choose 1 1 = BAD
            wind = 0
            chosen 0 = BAD
            choose 0 1 = BAD
            choose 1 0 = BAD
            choose 2 1 = BAD
            choose 3 1 = BAD
            choose 1 2 = BAD
            choose 1 3 = BAD
            choose -1 1 = BAD
            choose 1 -1 = BAD
            choose MIN 1 = BAD
            choose MAX MAX = BAD
            choose 1 MIN = BAD
            chosen 0 = BAD
            lose 0 true = 1
            choose 1 1 = NOT
            choose 1 2 = BAD
            chosen 0 = BAD
            lose 0 false = 0
            choose 1 1 = 0      // none comes back: the first of all
            chosen 0 = 0
            chosen 1 = 20
            chosen 2 = 0
            chosen 3 = 80
            chosen -1 = BAD
            chosen 4 = BAD
            chosen MIN = BAD
            """);
    }

    /** At 80 against a wind of 60 a level stick is 400 away at tick 20, elsewhere more than 1000. */
    private static void mostWinds() {
        String winds = """
            plain 5 0 1 0 = 0
            ring 1000 = 300
            wind = 0
            blows 0 0 60 0 = 0
            wind = 1
            blows 1 0 60 180 = 0
            wind = 2
            blows 2 0 60 270 = 0
            wind = 3
            blows 3 0 60 270 = 0
            """;
        Script.run(check, "promise 18: in most winds", winds + """
            choose 1 1 = 1
            chosen 2 = 180
            chosen 3 = 80
            choose 1 2 = 1
            chosen 2 = 0
            choose 1 3 = 1      // 0 and 180 like: the first
            chosen 2 = 0
            choose 1 15 = 2
            chosen 2 = 90
            choose 1 4 = 1
            chosen 2 = 90
            lose 0 true = 1
            choose 1 1 = NOT    // keeps what was chosen
            choose 1 16 = BAD
            chosen 2 = 90
            """);
    }

    private static void firstOfLikeOnes() {
        Script.run(check, "promise 18: of like ones the first", """
            plain 50 0 1 0 = 0    // falls
            plain 5 0 1 0 = 1
            plain 5 0 1 0 = 2
            ring 2000 = 300
            wind = 0
            choose 7 1 = 1
            chosen 0 = 1
            chosen 1 = 20
            chosen 2 = 0
            chosen 3 = 80
            choose 5 1 = 1
            chosen 0 = 2
            choose 1 1 = 0
            chosen 0 = 0
            """);
    }

    /** Sticks that stay in the hand's heights at one lean, at one strength alone; the spin is 800. */
    private static void leanAndStrength() {
        Script.run(check, "promise 18: lean", """
            plain 50 0 1 0 = 0
            lift 0 1 88 = 0       // 70 times COS(45): 49
            ring 2000 = 300
            wind = 0
            choose 1 1 = 1
            chosen 1 = 45
            chosen 2 = 0
            chosen 3 = 80
            lift 0 1 182 = 88     // 145 times COS(70): 49
            choose 1 1 = 1
            chosen 1 = 70
            """);
        Script.run(check, "promise 18: strength", """
            plain 50 0 1 0 = 0
            lift 0 2 70 = 0       // below 180: 160
            ring 2000 = 300
            wind = 0
            blows 0 0 60 180 = 0
            choose 1 1 = 1        // 2000 away at tick 20
            chosen 1 = 20
            chosen 2 = 0
            chosen 3 = 160
            blows 0 0 60 90 = 60
            choose 1 1 = 1
            chosen 2 = 270
            """);
    }

    private static void bagAndSets() {
        Script.run(check, "promise 18: those in the bag", """
            plain 5 0 1 0 = 0
            plain 5 0 1 0 = 1
            ring 2000 = 300
            wind = 0
            lose 0 true = 1
            choose 1 1 = NOT
            choose 3 1 = 1
            chosen 0 = 1
            """);
        Script.run(check, "promise 18: all nine, all eight", """
            *8 plain 50 0 1 0
            plain 5 0 1 0 = 8
            ring 2000 = 300
            *8 wind
            choose 511 255 = 8
            chosen 0 = 8
            choose 512 255 = BAD
            choose 511 256 = BAD
            choose 256 128 = 1
            """);
    }

    private static void keep() {
        Script.run(check, "promise 20", """
            keep 0 0 0 0 100 800 -1 = BAD
            plain 5 0 1 0 = 0
            plain 5 0 1 0 = 1
            keep -1 0 0 0 100 800 -1 = BAD
            keep 2 0 0 0 100 800 -1 = BAD
            keep 0 2 0 0 100 800 -1 = BAD
            keep 0 -1 0 0 100 800 -1 = BAD
            keep 0 0 91 0 100 800 -1 = BAD
            keep 0 0 -1 0 100 800 -1 = BAD
            keep 0 0 0 360 100 800 -1 = BAD
            keep 0 0 0 -1 100 800 -1 = BAD
            keep 0 0 0 0 29 800 -1 = BAD
            keep 0 0 0 0 251 800 -1 = BAD
            keep 0 0 0 0 100 99 -1 = BAD
            keep 0 0 0 0 100 1001 -1 = BAD
            keep 0 0 0 0 100 800 0 = BAD
            keep 0 0 0 0 100 800 -2 = BAD
            ring 600 = 300
            keep 1 1 0 0 30 800 -1 = 1
            two 1 = NOT             // nothing was kept as the first
            keep 0 0 0 0 30 800 -1 = 1
            two 1 = 1
            keep 0 0 0 0 251 800 -1 = BAD
            two 1 = 1
            keep 0 0 0 0 250 800 -1 = 1
            two 1 = NONE
            keep 0 0 90 359 30 1000 -1 = 1
            two 1 = 1
            lose 0 true = 1         // a lost one is a stick, too
            keep 0 0 0 0 30 100 -1 = 1
            two 1 = 1
            """);
    }

    /** Against the wind: a throw of 100 comes back at tick 73, one of 90 at tick 49. */
    private static final String TWO = """
        plain 5 0 1 1 = 0
        plain 5 0 1 1 = 1
        wind = 0
        blows 0 0 60 180 = 0
        fly 0 0 0 100 800 0 = 2
        ticks = 73
        fly 1 0 0 90 800 0 = 2
        ticks = 49
        """;

    private static void two() {
        Script.run(check, "promise 21", TWO + """
            keep 0 0 0 0 100 800 0 = 1
            keep 1 1 0 0 90 800 0 = 1
            two 1 = 1
            two 23 = 1        // the second sooner
            two 24 = 48       // the second later
            two 25 = 49
            two 100 = 124
            two 0 = BAD
            two 101 = BAD
            two MIN = BAD
            two MAX = BAD
            keep 0 0 0 0 90 800 0 = 1
            keep 1 1 0 0 100 800 0 = 1
            two 1 = 1
            two 25 = 1
            two 26 = 2
            two 100 = 76
            keep 1 1 0 0 90 800 0 = 1
            two 1 = 1
            two 100 = 100
            """);
        Script.run(check, "promise 21: the greatest n", TWO + """
            fly 0 0 0 128 800 0 = 2
            ticks = 140
            fly 1 0 0 87 800 0 = 2
            ticks = 40
            keep 0 0 0 0 128 800 0 = 1
            keep 1 1 0 0 87 800 0 = 1
            two 99 = 1
            two 100 = 200
            """);
        Script.run(check, "promise 21: far apart", TWO + """
            keep 0 0 0 0 200 800 0 = 1   // tick 400
            keep 1 1 0 0 90 800 0 = 1
            two 100 = 1
            """);
    }

    private static void twoNot() {
        Script.run(check, "promise 21: not", TWO + """
            two 5 = NOT
            two 0 = BAD
            keep 0 0 0 0 100 800 0 = 1
            two 5 = NOT
            keep 1 0 0 0 90 800 0 = 1
            two 5 = NOT
            keep 1 1 0 0 90 800 -1 = 1
            two 5 = NONE
            keep 1 1 0 0 90 800 0 = 1
            keep 0 0 0 0 100 800 -1 = 1
            two 5 = NONE
            keep 1 0 0 0 90 800 -1 = 1
            two 5 = NOT
            """);
        Script.run(check, "promise 21: nothing is kept as the second", TWO + """
            keep 0 1 0 0 100 800 0 = 1
            two 5 = NOT
            """);
    }

    /** Kept are the throws, not where they ended: what changes later counts. */
    private static void twoAsTold() {
        Script.run(check, "promise 21: flown as told", TWO + """
            keep 0 0 0 0 100 800 0 = 1
            keep 1 1 0 0 90 800 0 = 1
            two 24 = 48
            ring 2000 = 300
            two 24 = 24       // both at tick 20
            ring 300 = 2000
            lift 1 1 300 = 0
            two 24 = NONE
            lift 1 1 0 = 300
            blows 0 0 0 0 = 60
            two 24 = NONE
            """);
    }
}
