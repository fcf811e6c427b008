/**
 * Terms: what answers below 0 (as told) changes nothing. Every refusal of every call, on an object that holds some
 * of everything, on a full one and on a new one; all Probes look on.
 */
public final class RefusalsTest {
    private static final Check check = new Check();

    public static void main(String[] args) {
        Script.run(check, "nothing changes: of some of everything", SOME + SOME_REFUSED);
        Script.run(check, "nothing changes: of a full object", FULL + FULL_REFUSED);
        Script.run(check, "nothing changes: of a new object", NEW_REFUSED);
        probesTellApart();
        check.end();
    }

    private static final String SOME = """
        plain 10 10 1 0 = 0
        winged 20 30 2 1 50 = 1
        plain 5 0 1 1 = 2
        plain 5 0 1 1 = 3
        plain 10 0 1 0 = 4
        lift 1 1 40 = 0
        lift 1 0 30 = 0
        bend 0 3 = 0
        lose 4 true = 1
        wind = 0
        blows 0 0 60 180 = 0
        wind = 1
        blows 1 0 10 45 = 0
        blows 1 1 20 135 = 0
        blows 1 2 30 225 = 0
        blows 1 3 40 315 = 0
        tree 500 0 20 200 = 0
        tree -700 -700 100 3000 = 1
        ring 350 = 300
        choose 14 3 = 1
        keep 0 2 0 0 100 800 0 = 1
        keep 1 3 0 0 90 800 0 = 1
        match 0 -1 = -2
        match 3 0 = -2
        style 30 10 60 700 = 1
        row 0 90 0 100 800 1600 300 = 0
        row 0 45 30 100 800 1500 900 = 1
        row 0 80 0 90 800 1300 500 = 2
        row 1 30 200 80 900 -200 100 = 3
        patch 7 300 3 = 0
        patch 8 100 8 = 0
        fly 0 60 20 120 700 1 = 1
        *1 seen 10
        *1 search 14
        sheet 0 2 9 = 9
        item 0 2 3 100 = 1
        item 0 2 4 800 = 1
        item 0 2 5 77 = 1
        sheet 1 0 4 = 4
        item 1 0 2 -5 = 1
        sheet 2 1 0 = 0
        """;

    private static final String SOME_REFUSED = """
        plain 0 1 1 1 ! BAD
        plain 1 61 1 1 ! BAD
        winged 1 1 21 1 1 ! BAD
        winged 1 1 1 1 201 ! BAD
        lift 5 0 7 ! BAD
        lift 1 4 7 ! BAD
        lift 1 1 301 ! BAD
        bend 5 1 ! BAD-10
        bend 0 10 ! BAD-10
        told 5 1 ! BAD
        told 0 7 ! BAD
        told 0 5 ! NONE
        lose 5 true ! BAD
        lose -1 false ! BAD
        blows 2 0 1 1 ! BAD
        blows 0 4 1 1 ! BAD
        blows 0 0 61 1 ! BAD
        blows 0 0 1 360 ! BAD
        swing 2 10 ! BAD
        swing 1 360 ! BAD
        tree 9001 0 1 1 ! BAD
        tree 0 0 501 1 ! BAD
        ring 0 ! BAD
        ring 2001 ! BAD
        table 2 0 ! BAD-10000
        table 0 360 ! BAD-10000
        fly 5 45 0 100 800 -1 ! BAD
        fly 0 91 0 100 800 -1 ! BAD
        fly 0 45 360 100 800 -1 ! BAD
        fly 0 45 0 29 800 -1 ! BAD
        fly 0 45 0 100 1001 -1 ! BAD
        fly 0 45 0 100 800 2 ! BAD
        at 99 0 ! BAD-100000
        at 0 8 ! BAD-100000
        hit ! NONE
        choose 0 1 ! BAD
        choose 32 1 ! BAD
        choose 1 4 ! BAD
        choose 16 1 ! NOT
        chosen 4 ! BAD
        keep 2 0 0 0 100 800 0 ! BAD
        keep 0 5 0 0 100 800 0 ! BAD
        keep 1 0 0 0 100 99 0 ! BAD
        two 0 ! BAD
        two 101 ! BAD
        match 5 0 ! BAD-10
        match 0 2 ! BAD-10
        match 0 -3 ! BAD-10
        style 91 0 100 800 ! BAD
        style 0 0 100 99 ! BAD
        points 5 0 ! BAD
        points 0 2 ! BAD
        order 1 ! BAD
        order 5 ! BAD
        row 5 0 0 100 800 0 0 ! BAD
        row 0 0 0 100 800 10000 0 ! BAD
        miss 4 0 ! BAD
        miss 0 10 ! BAD
        explain 5 ! BAD-10
        explain 2 ! NONE-10
        sure 5 ! BAD
        sure 2 ! NONE
        rows 0 2 0 9 ! BAD
        rows 3 2 0 1 ! NULL
        rows 0 1 0 1 ! CAST
        rows 0 2 3 1 ! INDEX
        rows 0 2 1 1 ! NOT
        seen 99 ! BAD
        seen -1 ! BAD
        patch 25 1 1 ! BAD
        patch 7 1001 1 ! BAD
        patch 7 1 10 ! BAD
        grass 25 0 ! BAD
        grass 7 2 ! BAD
        search 25 ! BAD
        count 6 ! BAD
        sheet 4 0 1 ! BAD
        sheet 0 3 1 ! BAD
        sheet 0 0 61 ! BAD
        sheet 0 0 -1 ! SIZE
        drop 4 ! BAD
        drop 3 ! NULL
        item 4 2 0 1 ! BAD
        item 3 2 0 1 ! NULL
        item 0 1 0 1 ! CAST
        item 0 2 9 1 ! INDEX
        item 2 1 0 1 ! INDEX
        copy 4 0 0 0 1 ! BAD
        copy 0 0 3 0 1 ! NULL
        copy 0 0 1 0 1 ! CAST
        copy 0 3 0 0 7 ! INDEX
        copy 0 0 0 3 7 ! INDEX
        copy 0 0 0 0 -1 ! INDEX
        keep 1 2 0 0 90 800 0 = 1
        two 1 ! NOT
        keep 1 3 0 0 90 800 -1 = 1
        two 1 ! NONE
        match 1 -1 = -2
        match 2 -1 = -2
        match 4 -1 = -2
        best ! NONE
        order 0 ! NONE
        """;

    private static final String FULL = """
        *4 plain 10 10 1 0
        *5 winged 15 20 2 1 30
        lose 0 true = 1
        *8 wind
        blows 7 0 30 270 = 0
        tree 500 0 20 200 = 0
        *5 tree 900 900 20 200
        choose 511 128 = 0
        match 0 -1 = -2
        match 1 7 = -2
        match 2 0 = -2
        match 3 -1 = -2
        match 4 -1 = -2
        *29 row 1 90 0 100 800 1600 300
        row 8 0 0 100 800 5 700 = 29
        fly 1 60 20 120 700 7 = 1
        *1 seen 3
        sheet 0 0 60 = 60
        sheet 1 1 60 = 60
        sheet 2 2 60 = 60
        item 2 2 3 100 = 1
        item 2 2 4 800 = 1
        item 2 2 59 -9 = 1
        sheet 3 2 60 = 60
        """;

    private static final String FULL_REFUSED = """
        plain 5 0 1 0 ! FULL
        winged 5 0 1 0 1 ! FULL
        plain 0 0 1 0 ! BAD
        winged 5 0 1 0 0 ! BAD
        lift 9 0 1 ! BAD
        bend 9 1 ! BAD-10
        lose 9 true ! BAD
        wind ! FULL
        blows 8 0 1 1 ! BAD
        swing 8 1 ! BAD
        tree 0 0 1 1 ! FULL
        tree 0 0 0 1 ! BAD
        fly 9 45 0 100 800 -1 ! BAD
        fly 0 45 0 100 800 8 ! BAD
        choose 512 1 ! BAD
        choose 1 256 ! BAD
        choose 1 1 ! NOT
        keep 0 9 0 0 100 800 0 ! BAD
        match 5 -1 ! BAD-10
        match 0 8 ! BAD-10
        points 9 -1 ! BAD
        points 0 8 ! BAD
        order 5 ! BAD
        row 1 0 0 100 800 0 0 ! FULL
        row 9 0 0 100 800 0 0 ! BAD
        miss 30 0 ! BAD
        explain 9 ! BAD-10
        sure 9 ! BAD
        explain 0 ! NONE-10
        sure 0 ! NONE
        rows 2 2 0 1 ! FULL
        rows 2 2 0 8 ! NOT
        rows 2 2 5 8 ! INDEX
        rows 2 1 0 1 ! CAST
        sheet 0 0 61 ! BAD
        sheet 0 2 -1 ! SIZE
        item 2 2 60 1 ! INDEX
        copy 2 0 3 1 60 ! INDEX
        copy 2 0 3 0 61 ! INDEX
        """;

    private static final String NEW_REFUSED = """
        plain 101 0 1 0 ! BAD
        winged 1 0 1 0 0 ! BAD
        lift 0 0 0 ! BAD
        bend 0 0 ! BAD-10
        told 0 6 ! BAD
        lose 0 true ! BAD
        blows 0 0 0 0 ! BAD
        swing 0 0 ! BAD
        tree 0 0 1 0 ! BAD
        ring 0 ! BAD
        table -1 0 ! BAD-10000
        fly 0 0 0 30 100 -1 ! BAD
        at 0 0 ! BAD-100000
        hit ! NONE
        choose 1 1 ! BAD
        chosen 0 ! BAD
        keep 0 0 0 0 30 100 -1 ! BAD
        two 1 ! NOT
        two 0 ! BAD
        match 0 0 ! BAD-10
        style 0 0 29 100 ! BAD
        points 0 -1 ! BAD
        best ! NOT
        order 0 ! BAD
        row 0 0 0 30 100 0 0 ! BAD
        miss 0 0 ! BAD
        explain 0 ! BAD-10
        sure 0 ! BAD
        unrow ! NOT
        rows 0 0 0 0 ! NULL
        rows 0 0 0 9 ! BAD
        seen 0 ! BAD
        patch 0 0 0 ! BAD
        grass 0 2 ! BAD
        next ! NONE
        search 25 ! BAD
        count 6 ! BAD
        sheet 0 0 61 ! BAD
        sheet 0 0 -1 ! SIZE
        drop 0 ! NULL
        item 0 0 0 0 ! NULL
        copy 0 0 0 0 0 ! NULL
        """;

    /** Each of these changes something: were no Probe to tell, "changes nothing" would say nothing. */
    private static void probesTellApart() {
        String[] changes = {
            "plain 5 0 1 0", "winged 5 0 1 0 1", "lift 1 3 5", "lift 3 0 5", "bend 0 4", "bend 3 -1", "lose 0 true", "lose 4 false",
            "wind", "blows 0 0 59 180", "blows 0 0 60 181", "blows 1 1 21 135", "blows 1 3 40 314", "swing 1 1", "swing 0 -1",
            "tree 0 500 20 200", "ring 351", "fly 0 60 20 120 701 1", "fly 0 60 21 120 700 1", "choose 1 3", "choose 8 1",
            "keep 0 2 0 0 101 800 0", "keep 1 3 0 0 89 800 0", "keep 1 3 0 0 90 800 -1", "match 0 0", "match 3 -1",
            "match 0 -2", "match 4 1", "style 30 10 90 700", "style 30 100 60 700", "style 90 10 60 700",
            "row 0 0 0 30 100 0 0", "unrow", "seen 11", "patch 7 301 3", "patch 7 300 4", "patch 0 0 1", "search 12",
            "sheet 3 0 0", "sheet 2 0 0", "sheet 2 1 1", "sheet 0 2 9", "sheet 1 0 5", "drop 2", "drop 0", "item 0 2 8 1",
            "item 0 2 5 78", "item 1 0 2 -4", "copy 0 3 0 4 1", "copy 1 2 1 0 1"};
        for (String change : changes) {
            check.is("a Probe tells that something changes by " + change, Script.changes(check, SOME, change));
        }
    }
}
