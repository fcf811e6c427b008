/** Promises 14 to 17 and part 2 of the terms, sentence by sentence at their edges: fly, at, ticks, hit. */
public final class ThrowEdgesTest {
    private static final Check check = new Check();

    public static void main(String[] args) {
        numbersOfAThrow();
        begins();
        liftsBySpeed();
        liftsBySpin();
        climbHeld();
        fallHeld();
        wayRound();
        wayCut();
        placesCut();
        notBelow();
        leanEveryFourth();
        inATree();
        onTheGround();
        inTheHand();
        outOfSight();
        at();
        ticksAndHit();
        check.end();
    }

    private static final String TWO = """
        plain 10 30 3 1 = 0
        winged 10 30 3 1 50 = 1
        wind = 0
        wind = 1
        fly 0 45 0 100 800 0 = 1
        """;

    private static void numbersOfAThrow() {
        Script.run(check, "promise 14: a stick that there is", TWO + "fly [0..1] 45 0 100 800 -1 ! BAD");
        Script.run(check, "promise 14: a stick of nine", "*9 plain 5 0 1 0\nfly [0..8] 45 0 100 800 -1 ! BAD");
        Script.run(check, "promise 14: lean 0 .. 90", TWO + "fly 0 [0..90] 0 100 800 -1 ! BAD");
        Script.run(check, "promise 14: angle 0 .. 359", TWO + "fly 0 45 [0..359] 100 800 -1 ! BAD");
        Script.run(check, "promise 14: strength 30 .. 250", TWO + "fly 0 45 0 [30..250] 800 -1 ! BAD");
        Script.run(check, "promise 14: spin 100 .. 1000", TWO + "fly 0 45 0 100 [100..1000] -1 ! BAD");
        Script.run(check, "promise 14: a wind, or -1", TWO + "fly 0 45 0 100 800 [-1..1] ! BAD");
        Script.run(check, "promise 14: of no winds -1 alone", "plain 5 0 1 0 = 0\nfly 0 45 0 100 800 [-1..-1] ! BAD");
        Script.run(check, "promise 14: a wind of eight", """
            plain 5 0 1 0 = 0
            *8 wind
            fly 0 45 0 100 800 [-1..7] ! BAD
            """);
        Script.run(check, "promise 14: of any stick that there is: of a lost one, too", """
            plain 100 0 1 0 = 0
            lose 0 true = 1
            fly 0 0 0 100 800 -1 = 1
            ticks = 5
            told 0 6 = 0
            """);
        Script.run(check, "promise 14: the wind -1 is none, and not the first", """
            plain 5 0 1 0 = 0
            wind = 0
            blows 0 0 60 90 = 0
            fly 0 0 0 100 800 -1 = 4
            at 1 0 = 0
            fly 0 0 0 100 800 0 = 4
            at 1 0 = 60
            """);
    }

    private static void begins() {
        String all = """
            at 0 0 = 0
            at 0 1 = 0
            at 0 2 = 150
            at 0 3 = 0
            """;
        Script.run(check, "terms 2: it begins, with the least numbers", """
            plain 5 0 1 0 = 0
            fly 0 0 0 30 100 -1 = 4
            """ + all + """
            at 0 4 = 0
            at 0 5 = 30
            at 0 6 = 100
            at 0 7 = 0
            """);
        Script.run(check, "terms 2: it begins, with the greatest numbers", """
            plain 100 60 20 10 = 0
            fly 0 90 359 250 1000 -1 = 1
            """ + all + """
            at 0 4 = 35900
            at 0 5 = 250
            at 0 6 = 1000
            at 0 7 = 90
            """);
    }

    /** Lifts of 1, 2, 3, 4 more than the weight, by 10: what the climb gains tells which one it was. */
    private static void liftsBySpeed() {
        String stick = """
            plain 10 0 1 1 = 0
            lift 0 0 25 = 0
            lift 0 1 35 = 0
            lift 0 2 45 = 0
            lift 0 3 55 = 0
            """;
        Script.run(check, "terms 1: speeds below 60: 59 is, 60 is not", stick + """
            fly 0 0 0 60 1000 -1 = 4
            at 1 3 = 2
            at 1 5 = 59
            at 2 3 = 3
            fly 0 0 0 30 1000 -1 = 4
            at 1 3 = 1
            at 20 5 = 20
            at 21 3 = 21
            """);
        Script.run(check, "terms 1: speeds below 120: 119 is, 120 is not", stick + """
            fly 0 0 0 120 1000 -1 = 4
            at 1 3 = 3
            at 1 5 = 119
            at 2 3 = 5
            """);
        Script.run(check, "terms 1: speeds below 180: 179 is, 180 is not", stick + """
            fly 0 0 0 180 1000 -1 = 4
            at 1 3 = 4
            at 1 5 = 179
            at 2 3 = 7
            fly 0 0 0 250 1000 -1 = 4
            at 1 3 = 4
            """);
    }

    private static void liftsBySpin() {
        Script.run(check, "terms 2: hover more while spin is below 300: 299 is, 300 is not", """
            winged 10 0 1 0 200 = 0
            lift 0 1 100 = 0
            fly 0 0 0 100 300 -1 = 4
            at 1 3 = 2         // 30, less 10
            at 1 6 = 299
            at 2 3 = 23        // 29 and 200, less 10
            """);
        Script.run(check, "terms 2: the least hover is more, too", """
            winged 10 0 1 0 1 = 0
            fly 0 0 0 100 300 -1 = 1
            ticks = 150
            at 1 3 = -1
            at 2 3 = -1        // 1, less 10, by 10: cut toward 0
            """);
        Script.run(check, "terms 2: a plain one's lift is 0 while spin is below 100: 99 is, 100 is not", """
            plain 10 0 1 0 = 0
            lift 0 1 300 = 0
            fly 0 0 0 100 100 -1 = 1
            at 1 3 = 2         // 30, less 10
            at 1 6 = 99
            at 2 3 = 1
            """);
        Script.run(check, "terms 2: a winged one's lift is not 0 then", """
            winged 10 0 1 0 10 = 0
            lift 0 1 300 = 0
            fly 0 0 0 100 100 -1 = 4
            at 1 3 = 3         // 30 and 10, less 10
            at 2 3 = 5         // 29 and 10, less 10
            """);
        Script.run(check, "terms 2: a plain one hovers at no spin", """
            plain 10 0 1 0 = 0
            fly 0 0 0 100 300 -1 = 1
            at 1 3 = -1
            at 2 3 = -2
            """);
        Script.run(check, "terms 2: lift is by 1000, cut, ahead of the hover and the lean", """
            winged 10 0 1 0 11 = 0
            lift 0 1 99 = 0
            fly 0 0 0 100 299 -1 = 4
            at 1 3 = 3         // 29 (29.6) and 11, less 10
            """);
    }

    /** The first tick's speed is of another lift than those after it. */
    private static void climbHeld() {
        Script.run(check, "terms 2: climb held within .. 80: 79 and 80 are as they are", """
            plain 50 0 1 10 = 0
            lift 0 1 245 = 0
            lift 0 0 255 = 0
            fly 0 0 0 60 1000 -1 = 4
            at 1 3 = 19
            at 4 3 = 79
            at 5 3 = 80        // 99
            at 6 3 = 80
            """);
        Script.run(check, "terms 2: climb held within .. 80: 80 is reached", """
            plain 50 0 1 10 = 0
            lift 0 1 255 = 0
            lift 0 0 255 = 0
            fly 0 0 0 60 1000 -1 = 4
            at 3 3 = 60
            at 4 3 = 80
            at 5 3 = 80
            """);
        Script.run(check, "terms 2: climb held, then height is the held climb more, and less comes off it", """
            plain 50 0 1 10 = 0
            lift 0 3 265 = 0
            lift 0 2 255 = 0
            fly 0 0 0 180 1000 -1 = 1
            at 1 3 = 21
            at 3 3 = 61
            at 3 2 = 273
            at 4 3 = 80        // 81
            at 4 2 = 353
            at 7 3 = 80
            at 7 2 = 593
            at 8 3 = 75
            at 8 2 = 668
            """);
    }

    private static void fallHeld() {
        Script.run(check, "terms 2: climb held within -80 ..: -80 is reached", """
            plain 100 0 1 10 = 0
            lift 0 3 300 = 0
            fly 0 0 0 250 1000 -1 = 1
            at 8 3 = 80
            at 8 2 = 664
            at 16 3 = 0
            at 23 3 = -70
            at 24 3 = -80
            at 24 2 = 584
            at 25 3 = -80
            at 25 2 = 504
            """);
        Script.run(check, "terms 2: climb held within -80 ..: -82 is -80", """
            plain 100 0 1 10 = 0
            lift 0 3 300 = 0
            fly 0 0 0 200 1000 -1 = 1
            at 3 3 = 58
            at 3 2 = 267
            at 16 3 = -72
            at 16 2 = 111
            at 17 3 = -80
            at 17 2 = 31
            at 18 2 = -49
            """);
    }

    private static void wayRound() {
        Script.run(check, "terms 2: way round .. 35999: 35999 is as it is", """
            plain 5 10 1 0 = 0
            fly 0 90 359 30 990 -1 = 4
            at 1 4 = 35999
            """);
        Script.run(check, "terms 2: way round .. 35999: 36000 is 0", """
            plain 5 10 1 0 = 0
            fly 0 90 359 250 1000 -1 = 4
            at 1 4 = 0
            at 1 0 = 0
            at 1 1 = 250
            """);
        Script.run(check, "terms 2: way round .. 35999: 36010 is 10; the most is 36590", """
            plain 5 11 1 0 = 0
            fly 0 90 359 30 1000 -1 = 4
            at 1 4 = 10
            plain 5 60 1 0 = 1
            bend 1 9 = 0
            fly 1 90 359 30 1000 -1 = 2  // small rounds
            at 1 4 = 590
            """);
        Script.run(check, "terms 2: way round 0 ..: 0 is as it is, 31 less is 35969", """
            plain 5 0 15 0 = 0
            bend 0 -7 = 0
            fly 0 90 1 30 500 -1 = 4
            at 1 4 = 65
            at 2 4 = 32
            at 3 4 = 0
            at 4 4 = 35969
            """);
        Script.run(check, "terms 2: way round 0 ..: 1 less is 35999, and SIN of 359", """
            plain 5 0 1 0 = 0
            bend 0 -1 = 0
            fly 0 90 0 250 100 -1 = 4
            at 1 4 = 35999
            at 1 0 = -4        // 250 times -17 by 1000
            """);
        Script.run(check, "terms 2: way round 0 ..: the least is 90 less", """
            plain 5 0 1 0 = 0
            bend 0 -9 = 0
            fly 0 90 0 30 1000 -1 = 4
            at 1 4 = 35910
            """);
        Script.run(check, "terms 2: grip and bend: together 0, no turn", """
            plain 5 9 1 0 = 0
            bend 0 -9 = 0
            fly 0 90 0 30 1000 -1 = 4
            at 1 4 = 0
            at 400 4 = 0
            """);
    }

    private static void wayCut() {
        Script.run(check, "terms: cut toward 0: the way of a turn below 0", """
            plain 5 0 1 0 = 0
            bend 0 -1 = 0
            fly 0 30 0 30 199 -1 = 4     // 199 times 500 by 100000
            at 1 4 = 0
            fly 0 30 0 30 200 -1 = 4
            at 1 4 = 35999
            fly 0 30 1 30 399 -1 = 4     // 1.995 less
            at 1 4 = 99
            """);
        Script.run(check, "terms: cut toward 0: the way of a turn of 399999, of 999999", """
            plain 5 1 1 0 = 0
            fly 0 62 0 30 453 -1 = 4     // 453 times 883 by 100000
            at 1 4 = 3
            plain 5 7 1 0 = 1
            fly 1 88 0 30 143 -1 = 4     // 7 times 143 times 999 by 100000
            at 1 4 = 9
            """);
        Script.run(check, "terms 2: SIN, COS of the way by 100, cut: 99 is 0 degrees, 100 is 1", """
            plain 5 10 1 0 = 0
            fly 0 90 0 250 990 -1 = 4
            at 1 4 = 99
            at 1 0 = 0
            fly 0 90 0 250 1000 -1 = 4
            at 1 4 = 100
            at 1 0 = 4
            """);
        Script.run(check, "terms 2: no lean, no turn", """
            plain 5 60 1 0 = 0
            fly 0 0 7 30 1000 -1 = 4
            at 1 4 = 700
            at 400 4 = 700
            """);
    }

    private static void placesCut() {
        Script.run(check, "terms: cut toward 0: x and y, on both sides of 0", """
            plain 5 0 1 0 = 0
            fly 0 0 1 100 800 -1 = 4
            at 1 0 = 1         // 1.7
            fly 0 0 359 100 800 -1 = 4
            at 1 0 = -1
            fly 0 0 91 100 800 -1 = 4
            at 1 1 = -1
            fly 0 0 89 100 800 -1 = 4
            at 1 1 = 1
            """);
        Script.run(check, "terms: cut toward 0: 250 times 999 by 1000, and the wind's 60 times 999", """
            plain 5 0 1 0 = 0
            wind = 0
            fly 0 0 88 250 800 -1 = 4
            at 1 0 = 249
            at 1 1 = 8
            fly 0 0 2 250 800 -1 = 4
            at 1 0 = 8
            at 1 1 = 249
            fly 0 0 268 250 800 -1 = 4
            at 1 0 = -249
            blows 0 0 60 88 = 0
            fly 0 0 0 100 800 0 = 4
            at 1 0 = 59
            blows 0 0 60 2 = 60
            fly 0 0 90 100 800 0 = 4
            at 1 1 = 59
            blows 0 0 60 178 = 60
            fly 0 0 90 100 800 0 = 4
            at 1 1 = -59
            """);
        Script.run(check, "terms 2: the wind's part is cut by itself", """
            plain 5 0 1 0 = 0
            wind = 0
            blows 0 0 50 1 = 0
            fly 0 0 1 50 800 0 = 4
            at 1 0 = 0         // 0.85 twice
            at 1 1 = 100
            blows 0 0 50 359 = 50
            fly 0 0 359 50 800 0 = 4
            at 1 0 = 0
            """);
        Script.run(check, "terms: cut toward 0: the climb of a weight and a lift", """
            plain 19 0 1 0 = 0
            fly 0 0 0 100 800 -1 = 1
            at 1 3 = -1        // 19 by 10
            plain 9 0 1 0 = 1
            fly 1 0 0 100 800 -1 = 4
            at 1 3 = 0
            at 400 3 = 0
            lift 0 1 47 = 0
            fly 0 0 0 100 1000 -1 = 4
            at 1 3 = 2         // 28 by 10
            """);
    }

    private static void notBelow() {
        Script.run(check, "terms 2: spin not below 0: 1, 0, 0", """
            plain 5 0 1 0 = 0
            fly 0 0 0 30 100 -1 = 4
            at 99 6 = 1
            at 100 6 = 0
            at 101 6 = 0
            at 400 6 = 0
            """);
        Script.run(check, "terms 2: spin not below 0: 10 less 20", """
            plain 5 0 20 0 = 0
            fly 0 0 0 30 110 -1 = 4
            at 5 6 = 10
            at 6 6 = 0
            fly 0 0 0 30 100 -1 = 4
            at 4 6 = 20
            at 5 6 = 0
            """);
        Script.run(check, "terms 2: speed not below 20: 21, 20, 20", """
            plain 5 0 1 1 = 0
            fly 0 0 0 30 800 -1 = 4
            at 9 5 = 21
            at 10 5 = 20
            at 11 5 = 20
            at 400 5 = 20
            """);
        Script.run(check, "terms 2: speed not below 20: 21 less 10, 30 less 10", """
            plain 5 0 1 10 = 0
            fly 0 0 0 31 800 -1 = 4
            at 1 5 = 21
            at 2 5 = 20
            fly 0 0 0 30 800 -1 = 4
            at 1 5 = 20
            at 2 5 = 20
            at 2 1 = 50
            """);
        Script.run(check, "terms 1: drag 0, loss 1 are as they are", """
            plain 5 0 1 0 = 0
            fly 0 0 0 250 1000 -1 = 4
            at 400 5 = 250
            at 400 6 = 600
            """);
    }

    private static void leanEveryFourth() {
        Script.run(check, "terms 2: lean 1 less, if the tick can be divided by 4", """
            plain 5 0 1 0 = 0
            fly 0 90 0 30 800 -1 = 4
            at 1 7 = 90
            at 3 7 = 90
            at 4 7 = 89
            at 5 7 = 89
            at 7 7 = 89
            at 8 7 = 88
            at 355 7 = 2
            at 356 7 = 1
            at 359 7 = 1
            """);
        Script.run(check, "terms 2: lean not below 0", """
            plain 5 0 1 0 = 0
            fly 0 90 0 30 800 -1 = 4
            at 360 7 = 0
            at 363 7 = 0
            at 364 7 = 0
            at 400 7 = 0
            fly 0 1 0 30 800 -1 = 4
            at 3 7 = 1
            at 4 7 = 0
            at 8 7 = 0
            fly 0 0 0 30 800 -1 = 4
            at 4 7 = 0
            """);
    }

    /** A level stick, 100 further by x each tick: at tick 5 the tree is 30 by x and so much by y away. */
    private static void inATree() {
        String stick = "plain 5 0 1 0 = 0\n";
        Script.run(check, "terms 2: no further than thick: just as far", stick + """
            tree 530 40 50 150 = 0
            fly 0 0 90 100 800 -1 = 3
            hit = 0
            ticks = 5
            """);
        Script.run(check, "terms 2: no further than thick: 1 further", stick + """
            tree 530 40 49 150 = 0
            fly 0 0 90 100 800 -1 = 4
            """);
        Script.run(check, "terms 2: squares: 50.8 is further than 50, not than 51", stick + """
            tree 530 41 50 150 = 0
            fly 0 0 90 100 800 -1 = 4
            tree 530 41 51 150 = 1
            fly 0 0 90 100 800 -1 = 3
            hit = 1
            ticks = 5
            """);
        Script.run(check, "terms 2: squares beyond an int are no nearer", stick + """
            tree 0 0 500 1 = 0
            tree -9000 9000 500 3000 = 1
            fly 0 0 90 250 800 -1 = 4
            at 400 0 = 100000
            """);
        Script.run(check, "terms 2: height is no more than the tree's: 150 is, 151 is not", stick + """
            tree 500 0 1 149 = 0
            fly 0 0 90 100 800 -1 = 4
            tree 500 0 1 150 = 1
            fly 0 0 90 100 800 -1 = 3
            hit = 1
            """);
        Script.run(check, "terms 2: the first by numbers, not the nearest or the highest", stick + """
            tree 500 90 90 150 = 0
            tree 500 0 1 3000 = 1
            tree 500 1 500 3000 = 2
            fly 0 0 90 100 800 -1 = 3
            hit = 2
            ticks = 1
            """);
        Script.run(check, "terms 2: the first by numbers of those that are met", stick + """
            tree 500 90 89 3000 = 0
            tree 500 90 90 149 = 1
            tree 500 90 90 150 = 2
            tree 500 0 1 3000 = 3
            tree 500 0 90 3000 = 4
            tree 500 90 90 3000 = 5
            fly 0 0 90 100 800 -1 = 3
            hit = 2
            ticks = 5
            """);
        Script.run(check, "terms 2: from tick 1 on: not where it begins", stick + """
            tree 0 0 29 3000 = 0
            fly 0 0 90 30 800 -1 = 4
            tree 0 0 30 3000 = 1
            fly 0 0 90 30 800 -1 = 3
            hit = 1
            ticks = 1
            """);
    }

    private static void onTheGround() {
        Script.run(check, "terms 2: on the ground, if height is 0", """
            plain 85 0 20 1 = 0
            lift 0 1 23 = 0
            lift 0 0 197 = 0
            fly 0 0 0 62 492 -1 = 1
            ticks = 8
            at 7 2 = 23
            at 8 2 = 0
            """);
        Script.run(check, "terms 2: on the ground, if height is less: at 1 it is not", """
            plain 75 0 20 1 = 0
            lift 0 1 45 = 0
            lift 0 0 189 = 0
            fly 0 0 0 62 245 -1 = 1
            ticks = 8
            at 6 2 = 36
            at 7 2 = 1
            at 8 2 = -39
            """);
        Script.run(check, "terms 2: a tree ahead of the ground, at height 0 and less", """
            plain 100 0 1 0 = 0
            tree 0 500 1 1 = 0
            fly 0 0 0 100 800 -1 = 3
            at 5 2 = 0
            plain 90 0 1 0 = 1
            tree 0 600 1 1 = 1
            fly 1 0 0 100 800 -1 = 3
            hit = 1
            at 6 2 = -39
            """);
        Script.run(check, "terms 2: on the ground at the last tick, ahead of out of sight", """
            plain 13 0 2 0 = 0
            lift 0 1 17 = 0
            fly 0 0 0 100 1000 -1 = 1
            ticks = 400
            at 399 2 = 14
            at 400 2 = -3
            """);
        Script.run(check, "terms 2: the ground is the whole ground, in the ring, too", """
            plain 10 0 1 0 = 0
            ring 2000 = 300
            fly 0 0 0 30 800 -1 = 1
            ticks = 17
            """);
    }

    private static void inTheHand() {
        String stick = "plain 5 0 1 0 = 0\n";
        Script.run(check, "terms 2: in the hand, from tick 20 on: not at 19", stick + """
            ring 570 = 300
            fly 0 0 0 30 800 -1 = 4
            at 19 1 = 570
            ring 600 = 570
            fly 0 0 0 30 800 -1 = 2
            ticks = 20
            at 20 1 = 600
            """);
        Script.run(check, "terms 2: no further than the ring's wideness: squares", stick + """
            ring 593 = 300
            fly 0 0 45 30 800 -1 = 4     // 420, 420: 593.97 away
            at 20 0 = 420
            at 20 1 = 420
            ring 594 = 593
            fly 0 0 45 30 800 -1 = 2
            ticks = 20
            """);
        Script.run(check, "terms 2: squares beyond an int are not in the ring", stick + """
            ring 2000 = 300
            fly 0 0 90 250 800 -1 = 4
            ticks = 400
            """);
        Script.run(check, "terms 2: a tree ahead of the hand", stick + """
            ring 600 = 300
            tree 0 600 1 150 = 0
            fly 0 0 0 30 800 -1 = 3
            ticks = 20
            hit = 0
            """);
    }

    private static void outOfSight() {
        Script.run(check, "terms 2: out of sight at tick 400, not sooner", """
            plain 5 0 1 0 = 0
            fly 0 0 0 100 800 -1 = 4
            ticks = 400
            at 400 1 = 40000
            at 401 1 ! BAD-100000
            """);
        Script.run(check, "terms 2: out of sight, though only 1 high", """
            plain 88 0 4 0 = 0
            lift 0 1 237 = 0
            fly 0 0 0 100 1000 -1 = 4
            ticks = 400
            at 400 2 = 1
            """);
    }

    private static void at() {
        Script.run(check, "promise 15: ahead of one", "plain 5 0 1 0 = 0\nat 0 0 ! BAD-100000\nat 1 0 ! BAD-100000");
        Script.run(check, "promise 15: a refused one is none", """
            plain 5 0 1 0 = 0
            fly 0 0 0 29 800 -1 ! BAD
            at 0 0 ! BAD-100000
            """);
        Script.run(check, "promise 15: a tick 0 .. its last", """
            plain 10 0 1 0 = 0
            fly 0 0 0 100 800 -1 = 1
            at [0..17] 0 ! BAD-100000
            """);
        Script.run(check, "promise 15: a tick 0 .. 400", """
            plain 5 0 1 0 = 0
            fly 0 0 0 100 800 -1 = 4
            at [0..400] 7 ! BAD-100000
            """);
        Script.run(check, "promise 15: 0 .. 7", """
            plain 10 0 1 0 = 0
            fly 0 0 0 100 800 -1 = 1
            at 0 [0..7] ! BAD-100000
            at 17 [0..7] ! BAD-100000
            """);
        Script.run(check, "promise 15: the latest fly(): a shorter one after a longer, and the other way round", """
            plain 5 0 1 0 = 0
            plain 100 0 1 0 = 1
            fly 0 0 0 100 800 -1 = 4
            fly 1 0 0 100 800 -1 = 1
            at 5 1 = 500
            at 6 1 ! BAD-100000
            at 400 1 ! BAD-100000
            fly 0 0 0 100 800 -1 = 4
            at 6 1 = 600
            at 400 1 = 40000
            """);
        Script.run(check, "promise 15: BAD less 100000: places may be below it", """
            plain 5 0 1 0 = 0
            wind = 0
            blows 0 0 60 180 = 0
            fly 0 0 180 250 800 0 = 4
            at 400 1 = -124000
            at 401 1 ! BAD-100000
            """);
    }

    private static void ticksAndHit() {
        Script.run(check, "promise 16: 0 ahead of one", """
            ticks = 0
            plain 5 0 1 0 = 0
            ticks = 0
            fly 0 0 0 251 800 -1 ! BAD
            ticks = 0
            """);
        Script.run(check, "promise 16: 1 at the least, 400 at the most", """
            plain 5 0 1 0 = 0
            fly 0 0 0 100 800 -1 = 4
            ticks = 400
            tree 0 0 500 3000 = 0
            fly 0 0 0 100 800 -1 = 3
            ticks = 1
            """);
        Script.run(check, "promise 17: none ahead of one, on the ground, in the hand, out of sight", """
            hit ! NONE
            plain 5 0 1 0 = 0
            plain 100 0 1 0 = 1
            tree 0 -500 1 3000 = 0
            fly 0 0 180 100 800 -1 = 3
            hit = 0
            fly 0 0 0 100 800 -1 = 4
            hit ! NONE
            fly 0 0 180 100 800 -1 = 3
            hit = 0
            fly 1 0 0 100 800 -1 = 1
            hit ! NONE
            fly 0 0 180 100 800 -1 = 3
            hit = 0
            ring 600 = 300
            fly 0 0 0 30 800 -1 = 2
            hit ! NONE
            """);
        Script.run(check, "promise 17: the last of six trees", """
            plain 5 0 1 0 = 0
            *5 tree 9000 9000 1 1
            tree 0 100 1 3000 = 5
            fly 0 0 0 100 800 -1 = 3
            hit = 5
            fly 0 91 0 100 800 -1 ! BAD
            hit = 5
            ticks = 1
            """);
    }
}
