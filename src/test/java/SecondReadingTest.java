/**
 * The document read once more from its first line: sentences that were kept, but that no test of a promise
 * would have noticed if they were broken. In the document's order.
 */
public final class SecondReadingTest {
    private static final Check check = new Check();

    public static void main(String[] args) {
        wayIsCutOnce();
        leanIsLessAtTheEnd();
        throwAndWindAreCutApart();
        whereAThrowLeavesItsStick();
        outOfSightNearBy();
        bendsInChoices();
        bendsInTwo();
        lostOnceKept();
        bendsInMatches();
        explainedByItsOwnRows();
        sureByBend0();
        explainedByAllRows();
        check.end();
    }

    private static void wayIsCutOnce() {
        Script.run(check, "terms 2: (grip and bend) times spin times SIN(lean), then by 100000", """
            plain 5 60 1 0 = 0
            fly 0 1 0 30 999 -1 = 4
            at 1 4 = 10          // 60 times 999 times 17; of 999 times 17 by 1000 it were 9
            bend 0 -9 = 0
            fly 0 1 0 30 1000 -1 = 4
            at 1 4 = 8           // 51 times 1000 times 17: 8.67; 60 and 9 apart were 10 less 1
            """);
    }

    private static void leanIsLessAtTheEnd() {
        Script.run(check, "terms 2: lean is 1 less behind the turn of that tick", """
            plain 5 60 1 0 = 0
            fly 0 1 0 30 1000 -1 = 4
            at 3 4 = 30
            at 3 7 = 1
            at 4 4 = 40          // still of lean 1
            at 4 7 = 0
            at 5 4 = 40
            """);
        Script.run(check, "terms 2: lean is 1 less behind the lift of that tick", """
            plain 10 0 1 0 = 0
            lift 0 1 300 = 0
            fly 0 90 0 100 1000 -1 = 4
            at 4 3 = -4          // still of COS(90)
            at 4 7 = 89
            at 5 3 = -4          // 298 times 17: 5, less 10: by 10, cut toward 0
            """);
    }

    private static void throwAndWindAreCutApart() {
        Script.run(check, "terms 2: x, y by the speed; then both by the wind's: each cut by itself", """
            plain 5 0 1 0 = 0
            wind = 0
            blows 0 0 1 60 = 0
            fly 0 0 60 31 800 0 = 4
            at 1 0 = 26          // 26.8 and 0.8
            at 1 1 = 15          // 15.5 and 0.5
            blows 0 0 1 240 = 1
            fly 0 0 240 31 800 0 = 4
            at 1 0 = -26
            at 1 1 = -15
            """);
    }

    /** LOST is what lose() told, and nothing else. */
    private static void whereAThrowLeavesItsStick() {
        Script.run(check, "promises 7, 14: a throw neither loses a stick nor finds it", """
            plain 5 0 1 0 = 0
            plain 100 0 1 0 = 1
            tree 0 -1000 1 3000 = 0
            ring 600 = 300
            fly 0 0 0 31 800 -1 = 4
            told 0 6 = 1
            fly 0 0 180 100 800 -1 = 3
            told 0 6 = 1
            fly 1 0 0 100 800 -1 = 1
            told 1 6 = 1
            lose 0 true = 1
            fly 0 0 0 30 800 -1 = 2
            told 0 6 = 0
            count 1 = 1
            lose 0 true = 0
            """);
    }

    /** Speed 20 against a wind of 20: 10 away from tick 1 to 400, and never within a ring of 9. */
    private static void outOfSightNearBy() {
        Script.run(check, "promise 24: out of sight is worth 0, however near", """
            plain 5 0 1 10 = 0
            wind = 0
            blows 0 0 20 180 = 0
            ring 9 = 300
            style 0 0 30 800 = 1
            fly 0 0 0 30 800 0 = 4
            at 400 0 = 0
            at 400 1 = 10
            points 0 0 = 0
            match 0 0 = -2
            best = 0
            ring 10 = 9
            points 0 0 = 50
            best = 50
            """);
    }

    /** Of lean 70, angle 0, strength 80 it comes back with a bend of 9 alone. */
    private static final String BENT = """
        plain 5 60 1 0 = 0
        plain 5 60 1 0 = 1
        wind = 0
        fly 0 70 0 80 800 -1 = 4
        bend 0 9 = 0
        fly 0 70 0 80 800 -1 = 2
        bend 0 0 = 9
        """;

    private static void bendsInChoices() {
        Script.run(check, "promise 18: a stick is thrown with its bend", BENT + """
            choose 3 1 = 0
            chosen 0 = 0
            chosen 1 = 20
            bend 1 9 = 0
            choose 3 1 = 1
            chosen 0 = 1
            chosen 1 = 70
            chosen 2 = 0
            chosen 3 = 80
            bend 1 8 = 9
            choose 3 1 = 0
            chosen 0 = 0
            """);
    }

    private static void bendsInTwo() {
        Script.run(check, "promise 21: both are flown with the bends that they have then", BENT + """
            keep 0 0 70 0 80 800 -1 = 1
            keep 1 1 70 0 80 800 -1 = 1
            two 7 = NONE
            bend 0 9 = 0
            two 7 = NONE
            bend 1 9 = 0
            two 7 = 7
            bend 0 0 = 9
            two 7 = NONE
            bend 0 9 = 0
            two 7 = 7
            bend 1 -9 = 9
            two 7 = NONE
            """);
    }

    /** TWO IN THE AIR says nothing of the bag: kept is a throw, whatever becomes of its stick. */
    private static void lostOnceKept() {
        Script.run(check, "promises 7, 21: a stick that is lost after its throw was kept", BENT + """
            bend 0 9 = 0
            bend 1 9 = 0
            keep 0 0 70 0 80 800 -1 = 1
            keep 1 1 70 0 80 800 -1 = 1
            lose 0 true = 1
            two 7 = 7
            lose 1 true = 1
            two 7 = 7
            lose 0 false = 0
            two 7 = 7
            """);
    }

    private static void bendsInMatches() {
        Script.run(check, "promises 24 to 26: a stick is thrown with its bend", BENT + """
            style 70 0 80 800 = 1
            match 2 -1 = -2
            points 1 -1 = 0
            best = 0
            order 2 = 0
            bend 1 9 = 0
            points 0 -1 = 0
            points 1 -1 = 50
            best = 50
            order 2 = 1
            bend 1 0 = 9
            bend 0 9 = 0
            best = 50
            order 2 = 0
            """);
    }

    /** Two like sticks, one bent by 3, the other by -5: three rows of each, one after the other. */
    private static ThrowersBag twoBent() {
        ThrowersBag bag = new ThrowersBag();
        bag.plain(10, 10, 1, 0);
        bag.plain(10, 10, 1, 0);
        for (int i = 0; i < 3; i++) {
            bentRow(bag, 0, 3, 40 * i);
            bentRow(bag, 1, -5, 40 * i);
        }
        return bag;
    }

    private static void bentRow(ThrowersBag bag, int stick, int bend, int angle) {
        bag.bend(stick, bend);
        bag.fly(stick, 90, angle, 100, 800, -1);
        bag.row(stick, 90, angle, 100, 800, bag.at(bag.ticks(), 0), bag.at(bag.ticks(), 1));
    }

    private static void explainedByItsOwnRows() {
        check.about("promises 29, 30: the sum of misses over its rows, and of no other's");
        ThrowersBag bag = twoBent();
        check.due("explain(0)", bag.explain(0), 3);
        check.due("explain(1)", bag.explain(1), -5);
        check.due("sure(0)", bag.sure(0), 1);
        check.due("sure(1)", bag.sure(1), 1);
        bag.unrow();
        check.due("explain(0) after the other's last row went", bag.explain(0), 3);
        check.due("sure(0) after the other's last row went", bag.sure(0), 1);
        check.due("sure(1) of two rows, five in all", bag.sure(1), 0);
    }

    private static void sureByBend0() {
        check.about("promise 30: with bend 0 the sum is more than twice as much, whatever the stick's own bend is");
        for (int own = -9; own <= 9; own++) {
            ThrowersBag bag = twoBent();
            bag.bend(0, own);
            check.due("sure(0), its own bend " + own, bag.sure(0), 1);
            check.due("its own bend stays", bag.bend(0, 0), own);
            ThrowersBag straight = new ThrowersBag();
            straight.plain(10, 10, 1, 0);
            for (int i = 0; i < 3; i++) {
                bentRow(straight, 0, 0, 40 * i);
            }
            straight.bend(0, own);
            check.due("sure(0) of rows that are not bent, its own bend " + own, straight.sure(0), 0);
        }
    }

    /** Without a lean all bends are alike: of 30 rows one alone tells, wherever it stands. */
    private static void explainedByAllRows() {
        check.about("promises 29, 30: all its rows, from the first to the last");
        for (int tells = 0; tells < 30; tells++) {
            ThrowersBag bag = new ThrowersBag();
            bag.plain(10, 10, 1, 0);
            for (int i = 0; i < 30; i++) {
                if (i == tells) {
                    bentRow(bag, 0, 3, 0);
                } else {
                    bag.row(0, 0, 0, 100, 800, 0, 1700);
                }
            }
            check.due("rows", bag.count(4), 30);
            check.due("explain(0), row " + tells + " tells", bag.explain(0), 3);
            check.due("sure(0), row " + tells + " tells", bag.sure(0), 1);
        }
    }
}
