/** Promises 1 to 7, sentence by sentence at their edges: a new object, plain, winged, lift, bend, told, lose. */
public final class StickEdgesTest {
    private static final Check check = new Check();

    public static void main(String[] args) {
        newObject();
        numbersOfPlain();
        numbersOfWinged();
        fullOfSticks();
        atFirst();
        lift();
        bend();
        told();
        lose();
        check.end();
    }

    private static void newObject() {
        Script.run(check, "promise 1: an empty bag: there is no stick", """
            lift 0 0 1 ! BAD
            bend 0 1 ! BAD-10
            told 0 0 ! BAD
            lose 0 true ! BAD
            lose 0 false ! BAD
            fly 0 45 0 100 800 -1 ! BAD
            choose 1 1 ! BAD
            keep 0 0 45 0 100 800 -1 ! BAD
            points 0 -1 ! BAD
            row 0 45 0 100 800 0 0 ! BAD
            explain 0 ! BAD-10
            sure 0 ! BAD
            count 0 = 0
            count 1 = 0
            """);
        Script.run(check, "promise 1: an empty bag: there is no wind, tree, row, throw", """
            blows 0 0 1 1 ! BAD
            swing 0 1 ! BAD
            match 0 0 ! BAD-10
            miss 0 0 ! BAD
            unrow ! NOT
            at 0 0 ! BAD-100000
            seen 0 ! BAD
            hit ! NONE
            ticks = 0
            chosen 0 ! BAD
            two 1 ! NOT
            best ! NOT
            order 0 ! BAD
            next ! NONE
            count 2 = 0
            count 3 = 0
            count 4 = 0
            count 5 = 0
            """);
        Script.run(check, "promise 1: the ring 300 wide, no throws, no sheets at first", """
            ring 300 = 300
            match 0 -2 = -2
            match 1 -2 = -2
            match 2 -2 = -2
            match 3 -2 = -2
            match 4 -2 = -2
            drop 0 ! NULL
            drop 1 ! NULL
            drop 2 ! NULL
            drop 3 ! NULL
            """);
        check.about("promise 1: weights 0, k 5 at first");
        ThrowersBag bag = new ThrowersBag();
        for (int p = 0; p < 25; p++) {
            check.due("grass(" + p + ", 0)", bag.grass(p, 0), 0);
            check.due("grass(" + p + ", 1)", bag.grass(p, 1), 5);
        }
    }

    private static void numbersOfPlain() {
        Script.run(check, "promise 2: weight 1 .. 100", "plain [1..100] 0 1 0 ! BAD");
        Script.run(check, "promise 2: grip 0 .. 60", "plain 1 [0..60] 1 0 ! BAD");
        Script.run(check, "promise 2: loss 1 .. 20", "plain 1 0 [1..20] 0 ! BAD");
        Script.run(check, "promise 2: drag 0 .. 10", "plain 1 0 1 [0..10] ! BAD");
        Script.run(check, "promise 2: the least and the greatest are kept as they are", """
            plain 1 0 1 0 = 0
            plain 100 60 20 10 = 1
            told 0 1 = 1
            told 0 2 = 0
            told 0 3 = 1
            told 0 4 = 0
            told 1 1 = 100
            told 1 2 = 60
            told 1 3 = 20
            told 1 4 = 10
            """);
    }

    private static void numbersOfWinged() {
        Script.run(check, "promise 3: weight 1 .. 100", "winged [1..100] 0 1 0 1 ! BAD");
        Script.run(check, "promise 3: grip 0 .. 60", "winged 1 [0..60] 1 0 1 ! BAD");
        Script.run(check, "promise 3: loss 1 .. 20", "winged 1 0 [1..20] 0 1 ! BAD");
        Script.run(check, "promise 3: drag 0 .. 10", "winged 1 0 1 [0..10] 1 ! BAD");
        Script.run(check, "promise 3: hover 1 .. 200", "winged 1 0 1 0 [1..200] ! BAD");
        Script.run(check, "promise 3: the least and the greatest are kept as they are", """
            winged 1 0 1 0 1 = 0
            winged 100 60 20 10 200 = 1
            told 0 1 = 1
            told 0 2 = 0
            told 0 3 = 1
            told 0 4 = 0
            told 0 5 = 1
            told 1 1 = 100
            told 1 2 = 60
            told 1 3 = 20
            told 1 4 = 10
            told 1 5 = 200
            """);
    }

    private static void fullOfSticks() {
        String eight = """
            plain 1 0 1 0 = 0
            winged 2 0 1 0 1 = 1
            plain 3 0 1 0 = 2
            winged 4 0 1 0 1 = 3
            plain 5 0 1 0 = 4
            winged 6 0 1 0 1 = 5
            plain 7 0 1 0 = 6
            winged 8 0 1 0 1 = 7
            count 0 = 8
            """;
        Script.run(check, "promise 2: full: 9", eight + """
            plain 9 0 1 0 = 8
            told 8 1 = 9
            plain 10 0 1 0 ! FULL
            winged 10 0 1 0 1 ! FULL
            count 0 = 9
            count 1 = 9
            told 9 0 ! BAD
            """);
        Script.run(check, "promise 3: full", eight + """
            winged 9 0 1 0 200 = 8
            told 8 5 = 200
            winged 10 0 1 0 1 ! FULL
            plain 10 0 1 0 ! FULL
            count 0 = 9
            told 8 1 = 9
            """);
        Script.run(check, "promises 2, 3: BAD is named ahead of FULL", """
            *9 plain 5 0 1 0
            plain 0 0 1 0 ! BAD
            plain 1 61 1 0 ! BAD
            plain 1 0 0 0 ! BAD
            plain 1 0 1 11 ! BAD
            winged 101 0 1 0 1 ! BAD
            winged 1 -1 1 0 1 ! BAD
            winged 1 0 21 0 1 ! BAD
            winged 1 0 1 -1 1 ! BAD
            winged 1 0 1 0 0 ! BAD
            winged 1 0 1 0 201 ! BAD
            """);
        Script.run(check, "promise 2: lost sticks are sticks: still full", """
            *9 plain 5 0 1 0
            lose 0 true = 1
            lose 8 true = 1
            plain 5 0 1 0 ! FULL
            winged 5 0 1 0 1 ! FULL
            count 1 = 7
            """);
        Script.run(check, "promise 2: what is refused takes no number", """
            plain 0 0 1 0 ! BAD
            winged 1 0 1 0 201 ! BAD
            plain 1 0 1 0 = 0
            plain 1 0 1 11 ! BAD
            winged 1 0 1 0 1 = 1
            """);
    }

    private static void atFirst() {
        check.about("promises 2, 3: lifts 0, bend 0, in the bag at first");
        for (int s = 0; s < 9; s++) {
            ThrowersBag bag = new ThrowersBag();
            for (int i = 0; i <= s; i++) {
                if (i % 2 == s % 2) {
                    bag.plain(5, 0, 1, 0);
                } else {
                    bag.winged(5, 0, 1, 0, 1);
                }
            }
            for (int band = 0; band < 4; band++) {
                check.due("lift(" + s + ", " + band + ", 300)", bag.lift(s, band, 300), 0);
            }
            check.due("bend(" + s + ", 9)", bag.bend(s, 9), 0);
            check.due("told(" + s + ", 6)", bag.told(s, 6), 1);
        }
    }

    private static final String TWO = """
        plain 5 0 1 0 = 0
        winged 6 0 1 0 7 = 1
        """;

    private static void lift() {
        Script.run(check, "promise 4: a stick that there is", TWO + "lift [0..1] 0 7 ! BAD");
        Script.run(check, "promise 4: a stick of nine", "*9 plain 5 0 1 0\nlift [0..8] 3 300 ! BAD");
        Script.run(check, "promise 4: four lifts", TWO + "lift 0 [0..3] 7 ! BAD");
        Script.run(check, "promise 4: lifts 0 .. 300", TWO + "lift 1 3 [0..300] ! BAD");
        Script.run(check, "promise 4: what it was, at the least and the greatest", TWO + """
            lift 0 0 300 = 0
            lift 0 0 0 = 300
            lift 0 0 300 = 0
            lift 0 3 300 = 0
            lift 0 3 300 = 300
            lift 0 3 301 ! BAD
            lift 0 3 -1 ! BAD
            lift 0 3 0 = 300
            lift 1 3 1 = 0
            """);
    }

    private static void bend() {
        Script.run(check, "promise 5: a stick that there is", TWO + "bend [0..1] 0 ! BAD-10");
        Script.run(check, "promise 5: a stick of nine", "*9 plain 5 0 1 0\nbend [0..8] 9 ! BAD-10");
        Script.run(check, "promise 5: bends -9 .. 9", TWO + "bend 1 [-9..9] ! BAD-10");
        Script.run(check, "promise 5: what it was, at the least and the greatest", TWO + """
            bend 0 -9 = 0
            bend 0 -9 = -9
            bend 0 9 = -9
            bend 0 10 ! BAD-10
            bend 0 -10 ! BAD-10
            bend 0 0 = 9
            bend 1 0 = 0
            """);
        check.about("promise 5: BAD less 10 is no bend");
        check.due("BAD - 10", ThrowersBag.BAD - 10, -11);
    }

    private static void told() {
        Script.run(check, "promise 6: a stick that there is", TWO + "told [0..1] 0 ! BAD");
        Script.run(check, "promise 6: a stick of nine", "*9 plain 5 0 1 0\ntold [0..8] 6 ! BAD");
        Script.run(check, "promise 6: 0 .. 6 of a plain one", TWO + "told 0 [0..6] ! BAD");
        Script.run(check, "promise 6: 0 .. 6 of a winged one", TWO + "told 1 [0..6] ! BAD");
        Script.run(check, "promise 6: a hover: none of a plain one", TWO + """
            told 0 5 ! NONE
            told 1 5 = 7
            told 2 5 ! BAD
            told -1 5 ! BAD
            """);
        Script.run(check, "promise 6: kinds 0, 1", TWO + """
            told 0 0 = 0
            told 1 0 = 1
            lose 0 true = 1
            told 0 0 = 0
            told 0 6 = 0
            told 1 6 = 1
            """);
    }

    private static void lose() {
        Script.run(check, "promise 7: a stick that there is", TWO + """
            lose [0..1] true ! BAD
            lose [0..1] false ! BAD
            """);
        Script.run(check, "promise 7: a stick of nine", "*9 plain 5 0 1 0\nlose [0..8] true ! BAD");
        Script.run(check, "promise 7: whether it was: lost twice, found twice", TWO + """
            lose 1 false = 1
            lose 1 true = 1
            lose 1 true = 0
            told 1 6 = 0
            count 1 = 1
            lose 1 false = 0
            lose 1 false = 1
            told 1 6 = 1
            count 1 = 2
            """);
        Script.run(check, "promise 7: all are lost, and found", """
            *9 plain 5 0 1 0
            lose 0 true = 1
            lose 1 true = 1
            lose 2 true = 1
            lose 3 true = 1
            lose 4 true = 1
            lose 5 true = 1
            lose 6 true = 1
            lose 7 true = 1
            count 1 = 1
            lose 8 true = 1
            count 1 = 0
            count 0 = 9
            lose 9 true ! BAD
            lose 8 false = 0
            count 1 = 1
            """);
        Script.run(check, "promise 7: what is lost keeps its numbers", """
            plain 11 12 13 4 = 0
            lift 0 2 44 = 0
            bend 0 -3 = 0
            lose 0 true = 1
            told 0 1 = 11
            told 0 2 = 12
            told 0 3 = 13
            told 0 4 = 4
            lift 0 2 45 = 44
            bend 0 3 = -3
            lose 0 false = 0
            lift 0 2 0 = 45
            bend 0 0 = 3
            """);
    }
}
