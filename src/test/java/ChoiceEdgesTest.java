import java.util.Arrays;
import java.util.Random;

/** Promises 18 to 21, sentence by sentence at their edges: choose, chosen, keep, two. */
public final class ChoiceEdgesTest {
    private static final Check check = new Check();

    public static void main(String[] args) {
        sets();
        notInTheBag();
        noneAndAll();
        strengthLast();
        lastOfAll();
        likeOnes();
        chosen();
        keep();
        keptAgain();
        two();
        twoNot();
        leastN();
        check.end();
    }

    /** Two level sticks, two winds, and a choice that refused ones must leave. */
    private static final String CHOSEN = """
        plain 5 0 1 0 = 0
        plain 5 0 1 0 = 1
        ring 1000 = 300
        wind = 0
        wind = 1
        blows 1 0 60 270 = 0
        choose 2 2 = 1
        chosen 0 = 1
        chosen 2 = 90
        """;

    private static void sets() {
        Script.run(check, "promise 18: no sticks at all", "wind = 0\nchoose 1 1 ! BAD\nchoose 0 1 ! BAD");
        Script.run(check, "promise 18: no winds at all", "plain 5 0 1 0 = 0\nchoose 1 1 ! BAD\nchoose 1 0 ! BAD");
        Script.run(check, "promise 18: no sticks, one that is not there", CHOSEN + "choose [1..3] 1 ! BAD");
        Script.run(check, "promise 18: no winds, one that is not there", CHOSEN + "choose 1 [1..3] ! BAD");
        Script.run(check, "promise 18: one that is not there, beside one that is", CHOSEN + """
            choose 5 1 ! BAD
            choose 6 1 ! BAD
            choose 257 1 ! BAD
            choose 1 5 ! BAD
            choose 1 129 ! BAD
            choose -2147483647 1 ! BAD
            choose 1 -2147483647 ! BAD
            choose -1 1 ! BAD
            choose 1 -1 ! BAD
            """);
        Script.run(check, "promise 18: sets of nine sticks, of eight winds", """
            *9 plain 50 0 1 0
            *8 wind
            choose [1..511] 255 ! BAD
            choose 511 [1..255] ! BAD
            """);
        Script.run(check, "promise 18: sets of one stick, of one wind", """
            plain 50 0 1 0 = 0
            wind = 0
            choose [1..1] 1 ! BAD
            choose 1 [1..1] ! BAD
            """);
    }

    private static void notInTheBag() {
        Script.run(check, "promise 18: none of these is in the bag", CHOSEN + """
            lose 0 true = 1
            choose 1 1 ! NOT
            choose 1 3 ! NOT
            chosen 0 = 1
            lose 1 true = 1
            choose 3 1 ! NOT
            choose 2 1 ! NOT
            """);
        Script.run(check, "promise 18: BAD is named ahead of NOT", CHOSEN + """
            lose 0 true = 1
            lose 1 true = 1
            choose 0 1 ! BAD
            choose 4 1 ! BAD
            choose 1 0 ! BAD
            choose 1 4 ! BAD
            """);
        Script.run(check, "promise 18: one of these is in the bag", CHOSEN + """
            lose 0 true = 1
            choose 3 2 = 1
            chosen 0 = 1
            lose 0 false = 0
            choose 3 2 = 1
            chosen 0 = 0
            """);
    }

    private static void noneAndAll() {
        Script.run(check, "promise 18: it comes back in none: 0, the first of all", CHOSEN + """
            ring 1 = 1000
            choose 3 3 = 0
            chosen 0 = 0
            chosen 1 = 20
            chosen 2 = 0
            chosen 3 = 80
            """);
        Script.run(check, "promise 18: it comes back in all eight", """
            plain 5 0 1 0 = 0
            *8 wind
            ring 2000 = 300
            choose 1 255 = 8
            choose 1 127 = 7
            choose 1 128 = 1
            """);
        Script.run(check, "promise 18: nine sticks, the last alone comes back", """
            *8 plain 50 0 1 0
            plain 5 0 1 0 = 8
            *8 wind
            ring 2000 = 300
            choose 511 255 = 8
            chosen 0 = 8
            choose 255 255 = 0
            chosen 0 = 0
            choose 256 1 = 1
            chosen 0 = 8
            """);
        Script.run(check, "promise 18: a later one that comes back in one wind more is chosen", """
            plain 5 0 1 0 = 0
            ring 1000 = 300
            *3 wind
            blows 0 0 60 180 = 0
            blows 1 0 60 225 = 0
            blows 2 0 60 225 = 0
            choose 1 3 = 1
            chosen 2 = 0
            choose 1 7 = 2
            chosen 2 = 45
            """);
    }

    /** A tree stops the weaker throw at angle 0: so that is the stronger one's, ahead of angle 45's weaker one. */
    private static void strengthLast() {
        String against = """
            plain 5 0 1 0 = 0
            ring 2000 = 300
            wind = 0
            blows 0 0 60 180 = 0
            """;
        Script.run(check, "promise 18: both strengths come back: 80", against + """
            fly 0 20 0 80 800 0 = 2
            fly 0 20 0 160 800 0 = 2
            choose 1 1 = 1
            chosen 2 = 0
            chosen 3 = 80
            """);
        Script.run(check, "promise 18: the angle is ahead of the strength", against + """
            tree 0 20 1 3000 = 0
            fly 0 20 0 80 800 0 = 3
            fly 0 20 0 160 800 0 = 2
            fly 0 20 45 80 800 0 = 2
            choose 1 1 = 1
            chosen 2 = 0
            chosen 3 = 160
            """);
    }

    /** Level at lean 70 and strength 160 alone, against a wind to 135. */
    private static void lastOfAll() {
        Script.run(check, "promise 18: the last of all: lean 70, angle 315, strength 160", """
            plain 50 0 1 1 = 0
            lift 0 2 182 = 0
            ring 2000 = 300
            wind = 0
            blows 0 0 60 135 = 0
            choose 1 1 = 1
            chosen 0 = 0
            chosen 1 = 70
            chosen 2 = 315
            chosen 3 = 160
            """);
    }

    /** By fly() alone: what comes back in how many winds, in the order of the document and in wrong orders. */
    private static void likeOnes() {
        check.about("promise 18: of like ones the first by stick, lean, angle, strength");
        int[] wrongOrdersTell = new int[3];
        for (int seed = 0; seed < 150; seed++) {
            int[][] backs = backs(seed);
            int due = first(backs, new int[] {0, 1, 2, 3});
            ThrowersBag bag = bag(seed);
            check.due("choose, bag " + seed, bag.choose(3, 3), backs[due][4]);
            for (int what = 0; what < 4; what++) {
                check.due("chosen(" + what + "), bag " + seed, bag.chosen(what), backs[due][what]);
            }
            wrongOrdersTell[0] += first(backs, new int[] {1, 0, 2, 3}) != due ? 1 : 0;
            wrongOrdersTell[1] += first(backs, new int[] {0, 2, 1, 3}) != due ? 1 : 0;
            wrongOrdersTell[2] += first(backs, new int[] {0, 1, 3, 2}) != due ? 1 : 0;
        }
        check.is("wrong orders would be seen: " + Arrays.toString(wrongOrdersTell),
                wrongOrdersTell[0] > 0 && wrongOrdersTell[1] > 0 && wrongOrdersTell[2] > 0);
    }

    private static ThrowersBag bag(int seed) {
        Random random = new Random(seed);
        ThrowersBag bag = new ThrowersBag();
        bag.ring(300 + random.nextInt(1000));
        for (int s = 0; s < 2; s++) {
            bag.plain(20 + random.nextInt(30), 10 + random.nextInt(40), 1 + random.nextInt(3), random.nextInt(2));
            for (int band = 0; band < 4; band++) {
                bag.lift(s, band, 30 + random.nextInt(60));
            }
        }
        for (int w = 0; w < 2; w++) {
            bag.wind();
            for (int band = 0; band < 4; band++) {
                bag.blows(w, band, random.nextInt(40), random.nextInt(360));
            }
        }
        return bag;
    }

    /** Stick, lean, angle, strength and in how many of two winds that comes back. */
    private static int[][] backs(int seed) {
        ThrowersBag bag = bag(seed);
        int[][] found = new int[96][];
        int n = 0;
        for (int stick = 0; stick < 2; stick++) {
            for (int lean = 20; lean <= 70; lean += 25) {
                for (int angle = 0; angle <= 315; angle += 45) {
                    for (int strength = 80; strength <= 160; strength += 80) {
                        int both = (bag.fly(stick, lean, angle, strength, 800, 0) == 2 ? 1 : 0)
                                + (bag.fly(stick, lean, angle, strength, 800, 1) == 2 ? 1 : 0);
                        found[n] = new int[] {stick, lean, angle, strength, both};
                        n++;
                    }
                }
            }
        }
        return found;
    }

    private static int first(int[][] backs, int[] order) {
        int best = 0;
        for (int i = 1; i < backs.length; i++) {
            boolean more = backs[i][4] > backs[best][4];
            boolean like = backs[i][4] == backs[best][4];
            int k = 0;
            while (like && k < 3 && backs[i][order[k]] == backs[best][order[k]]) {
                k++;
            }
            if (more || (like && backs[i][order[k]] < backs[best][order[k]])) {
                best = i;
            }
        }
        return best;
    }

    private static void chosen() {
        Script.run(check, "promise 19: ahead of one", """
            chosen 0 ! BAD
            chosen 3 ! BAD
            plain 5 0 1 0 = 0
            wind = 0
            chosen 0 ! BAD
            """);
        Script.run(check, "promise 19: ahead of one that told how many", """
            plain 5 0 1 0 = 0
            wind = 0
            lose 0 true = 1
            choose 1 1 ! NOT
            choose 2 1 ! BAD
            chosen 0 ! BAD
            """);
        Script.run(check, "promise 19: 0 .. 3", CHOSEN + "chosen [0..3] ! BAD");
        Script.run(check, "promise 19: the latest that told how many, though it told 0", CHOSEN + """
            ring 1 = 1000
            choose 1 1 = 0
            chosen 0 = 0
            chosen 2 = 0
            ring 1000 = 1
            lose 0 true = 1
            choose 1 2 ! NOT
            choose 0 2 ! BAD
            chosen 0 = 0
            chosen 2 = 0
            choose 2 2 = 1
            chosen 0 = 1
            chosen 2 = 90
            """);
    }

    /** Against the wind: a throw of 100 comes back at tick 73, one of 90 at tick 49. */
    private static final String KEPT = """
        plain 5 0 1 1 = 0
        plain 5 0 1 1 = 1
        wind = 0
        blows 0 0 60 180 = 0
        keep 0 0 0 0 100 800 0 = 1
        keep 1 1 0 0 90 800 0 = 1
        """;

    private static void keep() {
        Script.run(check, "promise 20: first 0, second 1", KEPT + "keep [0..1] 0 0 0 30 800 0 ! BAD");
        Script.run(check, "promise 20: a stick that there is", KEPT + "keep 1 [0..1] 0 0 30 800 0 ! BAD");
        Script.run(check, "promise 20: lean 0 .. 90", KEPT + "keep 1 1 [0..90] 0 30 800 0 ! BAD");
        Script.run(check, "promise 20: angle 0 .. 359", KEPT + "keep 1 1 0 [0..359] 30 800 0 ! BAD");
        Script.run(check, "promise 20: strength 30 .. 250", KEPT + "keep 0 0 0 0 [30..250] 800 0 ! BAD");
        Script.run(check, "promise 20: spin 100 .. 1000", KEPT + "keep 0 0 0 0 30 [100..1000] 0 ! BAD");
        Script.run(check, "promise 20: a wind, or -1", KEPT + "keep 0 0 0 0 30 800 [-1..0] ! BAD");
        Script.run(check, "promise 20: no stick", "keep 0 0 0 0 30 800 -1 ! BAD\nkeep 1 0 0 0 30 800 -1 ! BAD");
        Script.run(check, "promise 20: of no winds -1 alone", """
            plain 5 0 1 0 = 0
            keep 0 0 0 0 30 800 [-1..-1] ! BAD
            """);
    }

    private static void keptAgain() {
        Script.run(check, "promise 20: one that is kept again takes the first one's place", KEPT + """
            two 24 = 48
            keep 0 0 0 0 90 800 0 = 1
            two 24 = 24
            keep 1 1 0 0 100 800 0 = 1
            two 24 = 1
            two 26 = 2
            """);
        Script.run(check, "promise 20: what is refused keeps what was kept", KEPT + """
            keep 0 0 0 0 251 800 0 ! BAD
            keep 1 1 0 0 90 800 1 ! BAD
            keep 2 1 0 0 100 800 0 ! BAD
            two 24 = 48
            """);
    }

    private static void two() {
        Script.run(check, "promise 21: gap 1 .. 100", KEPT + "two [1..100] ! BAD");
        Script.run(check, "promise 21: sooner by gap: 23 is, 24 is later by then", KEPT + """
            two 23 = 1
            two 24 = 48
            """);
        Script.run(check, "promise 21: n is 1 at the least", KEPT + """
            keep 0 0 0 0 90 800 0 = 1
            keep 1 1 0 0 100 800 0 = 1    // 24 later by itself
            two 24 = 1
            two 25 = 1
            two 26 = 2
            two 100 = 76
            """);
        Script.run(check, "promise 21: n is 200 at the most", KEPT + """
            keep 0 0 0 0 128 800 0 = 1    // tick 140
            keep 1 1 0 0 87 800 0 = 1     // tick 40
            two 98 = 1
            two 99 = 1
            two 100 = 200
            """);
        Script.run(check, "promise 21: the latest and the soonest that come back", KEPT + """
            keep 0 0 0 0 200 800 0 = 1    // tick 400
            fly 1 0 0 30 800 0 = 4
            ring 2000 = 300
            fly 0 0 0 200 800 0 = 2
            ticks = 358
            fly 1 0 0 30 800 0 = 2
            ticks = 20
            keep 1 1 0 0 30 800 0 = 1
            two 100 = 1
            keep 0 0 0 0 30 800 0 = 1
            keep 1 1 0 0 200 800 0 = 1
            two 100 = 1
            """);
    }

    private static void twoNot() {
        Script.run(check, "promise 21: not both are kept", """
            plain 5 0 1 1 = 0
            plain 5 0 1 1 = 1
            two 1 ! NOT
            keep 0 0 0 0 100 800 -1 = 1
            two 1 ! NOT
            two 100 ! NOT
            """);
        Script.run(check, "promise 21: not both are kept: the second alone", """
            plain 5 0 1 1 = 0
            keep 1 0 0 0 100 800 -1 = 1
            two 1 ! NOT
            """);
        Script.run(check, "promise 21: of one stick", KEPT + """
            keep 1 0 0 0 90 800 0 = 1
            two 1 ! NOT
            keep 0 1 0 0 100 800 0 = 1
            two 1 = 1
            """);
        Script.run(check, "promise 21: none: one does not come back", KEPT + """
            keep 1 1 0 0 90 800 -1 = 1
            two 1 ! NONE
            keep 0 0 0 0 100 800 -1 = 1
            two 1 ! NONE
            keep 1 1 0 0 90 800 0 = 1
            two 1 ! NONE
            """);
        Script.run(check, "promise 21: BAD is named ahead of NOT, NOT ahead of NONE", KEPT + """
            keep 1 0 0 0 90 800 -1 = 1
            two 0 ! BAD
            two 101 ! BAD
            two 1 ! NOT
            keep 1 1 0 0 90 800 -1 = 1
            two 0 ! BAD
            two 101 ! BAD
            """);
    }

    /** All that two() may answer, by the ticks at which both come back. */
    private static void leastN() {
        check.about("promise 21: the least n");
        int[] strengths = {87, 90, 100, 110, 120, 128};
        for (int one : strengths) {
            for (int other : strengths) {
                ThrowersBag bag = new ThrowersBag();
                bag.plain(5, 0, 1, 1);
                bag.plain(5, 0, 1, 1);
                bag.wind();
                bag.blows(0, 0, 60, 180);
                check.due("fly " + one, bag.fly(0, 0, 0, one, 800, 0), 2);
                int first = bag.ticks();
                check.due("fly " + other, bag.fly(1, 0, 0, other, 800, 0), 2);
                int second = bag.ticks();
                bag.keep(0, 0, 0, 0, one, 800, 0);
                bag.keep(1, 1, 0, 0, other, 800, 0);
                for (int gap = 1; gap <= 100; gap++) {
                    int n = 1;
                    while (n + second - first < gap && first - (n + second) < gap) {
                        n++;
                    }
                    check.due("two(" + gap + ") of " + one + " and " + other, bag.two(gap), n);
                }
            }
        }
    }
}
