/** Promises 1 to 7: a new object, plain, winged, lift, bend, told, lose. */
public final class SticksTest {
    private static final Check check = new Check();

    public static void main(String[] args) {
        newObject();
        plain();
        winged();
        lift();
        bend();
        told();
        lose();
        check.end();
    }

    private static void newObject() {
        Script.run(check, "promise 1", """
            count 0 = 0
            count 1 = 0
            count 2 = 0
            count 3 = 0
            count 4 = 0
            count 5 = 0
            told 0 0 = BAD
            ticks = 0
            hit = NONE
            at 0 0 = BAD-100000
            chosen 0 = BAD
            two 1 = NOT
            best = NOT
            order 0 = BAD
            unrow = NOT
            miss 0 0 = BAD
            seen 0 = BAD
            next = NONE
            grass 0 0 = 0
            grass 24 1 = 5
            drop 0 = NULL
            drop 3 = NULL
            match 4 -2 = -2
            ring 300 = 300
            """);
        ThrowersBag one = new ThrowersBag();
        ThrowersBag other = new ThrowersBag();
        one.plain(5, 0, 1, 0);
        check.due("count(0) of another object", other.count(0), 0);
    }

    private static void plain() {
        Script.run(check, "promise 2: ranges", """
            plain 0 0 1 0 = BAD
            plain 101 0 1 0 = BAD
            plain 1 -1 1 0 = BAD
            plain 1 61 1 0 = BAD
            plain 1 0 0 0 = BAD
            plain 1 0 21 0 = BAD
            plain 1 0 1 -1 = BAD
            plain 1 0 1 11 = BAD
            plain MIN 0 1 0 = BAD
            plain 1 MAX 1 0 = BAD
            count 0 = 0
            plain 1 0 1 0 = 0
            plain 100 60 20 10 = 1
            count 0 = 2
            count 1 = 2
            lift 0 0 0 = 0
            lift 1 3 0 = 0
            told 1 0 = 0
            told 1 1 = 100
            told 1 2 = 60
            told 1 3 = 20
            told 1 4 = 10
            """);
        Script.run(check, "promise 2: full", """
            *8 plain 5 0 1 0
            plain 6 0 1 0 = 8
            plain 5 0 1 0 = FULL
            plain 0 0 1 0 = BAD
            count 0 = 9
            told 8 1 = 6
            """);
    }

    private static void winged() {
        Script.run(check, "promise 3", """
            winged 0 0 1 0 1 = BAD
            winged 101 0 1 0 1 = BAD
            winged 1 -1 1 0 1 = BAD
            winged 1 61 1 0 1 = BAD
            winged 1 0 0 0 1 = BAD
            winged 1 0 21 0 1 = BAD
            winged 1 0 1 -1 1 = BAD
            winged 1 0 1 11 1 = BAD
            winged 1 0 1 0 0 = BAD
            winged 1 0 1 0 201 = BAD
            winged 1 0 1 0 MIN = BAD
            count 0 = 0
            winged 1 0 1 0 1 = 0
            plain 1 0 1 0 = 1
            winged 100 60 20 10 200 = 2
            lift 2 0 0 = 0
            told 2 0 = 1
            told 2 1 = 100
            told 2 2 = 60
            told 2 3 = 20
            told 2 4 = 10
            told 2 5 = 200
            told 0 5 = 1
            *6 winged 1 0 1 0 1
            winged 1 0 1 0 1 = FULL
            winged 1 0 1 0 0 = BAD
            plain 1 0 1 0 = FULL
            count 0 = 9
            """);
    }

    private static void lift() {
        Script.run(check, "promise 4: what it was", """
            lift 0 0 1 = BAD
            plain 1 0 1 0 = 0
            winged 1 0 1 0 1 = 1
            lift 0 0 1 = 0
            lift 0 1 2 = 0
            lift 0 2 3 = 0
            lift 0 3 300 = 0
            lift 1 0 5 = 0
            lift 0 0 -1 = BAD
            lift 0 0 301 = BAD
            lift 0 -1 7 = BAD
            lift 0 4 7 = BAD
            lift -1 0 7 = BAD
            lift 2 0 7 = BAD
            lift MAX MAX MAX = BAD
            lift 0 0 0 = 1
            lift 0 1 0 = 2
            lift 0 2 0 = 3
            lift 0 3 0 = 300
            lift 1 0 0 = 5
            lift 1 1 0 = 0
            """);
        // Weight 10, lean 0, spin 1000: a lift of 10 more than 10 is a climb of 1 more.
        Script.run(check, "promise 4: which speeds", """
            plain 10 0 1 0 = 0
            lift 0 0 20 = 0
            lift 0 1 30 = 0
            lift 0 2 40 = 0
            lift 0 3 50 = 0
            fly 0 0 0 30 1000 -1 = 4
            at 1 3 = 1
            fly 0 0 0 59 1000 -1 = 4
            at 1 3 = 1
            fly 0 0 0 60 1000 -1 = 4
            at 1 3 = 2
            fly 0 0 0 119 1000 -1 = 4
            at 1 3 = 2
            fly 0 0 0 120 1000 -1 = 4
            at 1 3 = 3
            fly 0 0 0 179 1000 -1 = 4
            at 1 3 = 3
            fly 0 0 0 180 1000 -1 = 4
            at 1 3 = 4
            fly 0 0 0 250 1000 -1 = 4
            at 1 3 = 4
            """);
    }

    private static void bend() {
        Script.run(check, "promise 5", """
            bend 0 0 = BAD-10
            plain 5 10 1 0 = 0
            plain 5 0 1 0 = 1
            bend 0 -9 = 0
            bend 0 9 = -9
            bend 0 10 = BAD-10
            bend 0 -10 = BAD-10
            bend -1 0 = BAD-10
            bend 2 0 = BAD-10
            bend MIN MIN = BAD-10
            bend 1 0 = 0
            bend 0 5 = 9
            fly 0 90 0 30 1000 -1 = 4  // grip 10 and bend 5
            at 1 4 = 150
            bend 0 0 = 5
            fly 0 90 0 30 1000 -1 = 4
            at 1 4 = 100
            bend 1 -9 = 0
            fly 1 90 0 30 1000 -1 = 4  // round at 0
            at 1 4 = 35910
            """);
    }

    private static void told() {
        Script.run(check, "promise 6", """
            plain 11 12 13 4 = 0
            winged 21 22 15 6 27 = 1
            told 0 0 = 0
            told 0 1 = 11
            told 0 2 = 12
            told 0 3 = 13
            told 0 4 = 4
            told 0 5 = NONE
            told 0 6 = 1
            told 1 0 = 1
            told 1 1 = 21
            told 1 2 = 22
            told 1 3 = 15
            told 1 4 = 6
            told 1 5 = 27
            told 1 6 = 1
            told 0 -1 = BAD
            told 0 7 = BAD
            told -1 0 = BAD
            told 2 0 = BAD
            told MIN MAX = BAD
            """);
    }

    private static void lose() {
        Script.run(check, "promise 7", """
            lose 0 true = BAD
            plain 5 0 1 0 = 0
            plain 5 0 1 0 = 1
            lose 0 false = 1
            lose 0 true = 1
            told 0 6 = 0
            told 1 6 = 1
            count 1 = 1
            count 0 = 2
            lose 0 true = 0
            lose -1 true = BAD
            lose 2 true = BAD
            lose 0 false = 0
            told 0 6 = 1
            count 1 = 2
            """);
    }
}
