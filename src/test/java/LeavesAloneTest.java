import java.lang.reflect.Method;
import java.util.ArrayList;
import java.util.List;

/**
 * A call changes what its promise says, and nothing else. An object that holds some of everything is asked a call;
 * then all that the face shows is as the Reference has it, and, after calls that set back what the call says, it is
 * as it was, by every Probe.
 */
public final class LeavesAloneTest {
    private static final Check check = new Check();

    private static final String STICKS = """
        plain 10 10 1 0 = 0
        winged 20 30 2 1 50 = 1
        plain 5 60 1 0 = 2
        plain 5 60 1 0 = 3
        plain 10 60 1 0 = 4
        """;
    private static final String WINDS = """
        wind = 0
        wind = 1
        """;
    private static final String TREES = """
        tree 500 0 20 200 = 0
        tree -700 -700 100 3000 = 1
        """;
    private static final String LATEST = "fly 4 0 225 100 100 -1 = 3\n";
    private static final String STYLE = "style 30 10 110 700 = 1\n";
    private static final String FIRST = "keep 0 2 50 0 80 800 1 = 1\n", SECOND = "keep 1 3 50 0 70 900 1 = 1\n";
    private static final String LAST_ROW = "row 1 30 200 80 900 -200 100 = 3\n";
    private static final String REST = """
        lift 0 1 5 = 0
        lift 1 0 30 = 0
        lift 1 1 40 = 0
        lift 2 3 7 = 0
        bend 0 3 = 0
        bend 1 -2 = 0
        bend 2 9 = 0
        bend 3 9 = 0
        lose 4 true = 1
        blows 0 0 60 180 = 0
        blows 1 0 10 45 = 0
        blows 1 1 20 135 = 0
        blows 1 2 30 225 = 0
        blows 1 3 40 315 = 0
        ring 350 = 300
        choose 14 3 = 2
        match 0 -1 = -2
        match 3 0 = -2
        row 0 90 0 100 800 1600 300 = 0
        row 0 45 30 100 800 1500 900 = 1
        row 0 80 0 90 800 1300 500 = 2
        """ + LAST_ROW + FIRST + SECOND + STYLE + LATEST + """
        seen 3 = 6
        patch 7 300 3 = 500
        patch 8 100 8 = 333
        sheet 0 2 9 = 9
        item 0 2 0 1 = 1
        item 0 2 3 100 = 1
        item 0 2 4 800 = 1
        item 0 2 5 77 = 1
        sheet 1 0 4 = 4
        item 1 0 2 -5 = 1
        sheet 2 1 0 = 0
        """;
    private static final String RICH = STICKS + WINDS + TREES + REST;

    public static void main(String[] args) throws Exception {
        Script.run(check, "an object that holds some of everything", RICH);
        asked();
        setBack();
        grassSetBack();
        made();
        check.end();
    }

    /** Calls that tell, or say what is so already, and change nothing at all. */
    private static void asked() throws Exception {
        check.about("changes nothing");
        String[] calls = {
            "told 0 0", "told 1 5", "told 4 6", "table 0 90", "table 1 359", "at 0 2", "at 7 0", "ticks", "hit", "chosen 0",
            "chosen 3", "two 1", "two 20", "two 100", "points 0 1", "points 2 -1", "points 4 0", "best", "order 0", "order 3",
            "miss 0 3", "miss 1 0", "miss 3 -9", "explain 0", "explain 1", "sure 0", "sure 1", "rows 0 2 0 0", "rows 1 0 4 0",
            "rows 2 1 0 0", "grass 7 0", "grass 12 1", "next", "count 0", "count 1", "count 5", "lose 4 true", "lose 1 false",
            "lift 1 1 40", "bend 1 -2", "blows 1 2 30 225", "swing 1 0", "ring 350", "match 0 -1", "match 1 -2", "patch 7 300 3",
            "item 0 2 5 77", "item 1 0 2 251", "copy 0 0 0 0 9", "copy 1 1 1 3 0", "copy 2 0 2 0 0", "choose 14 3"};
        for (String call : calls) {
            leavesAlone(call, "");
        }
    }

    private static void leavesAlone(String call, String back) throws Exception {
        String was = check.about();
        check.about("as the Reference has it after " + call);
        asTheReference(RICH + call);
        check.about(was);
        String apart = Script.differs(check, RICH, RICH + "*1 " + call + "\n" + back);
        check.is(call + (apart.isEmpty() ? "" : " (" + apart + ")"), apart.isEmpty());
    }

    private static void setBack() throws Exception {
        check.about("changes what it says alone");
        leavesAlone("lift 1 1 50", "lift 1 1 40 = 50");
        leavesAlone("lift 2 3 0", "lift 2 3 7 = 0");
        leavesAlone("bend 0 -5", "bend 0 3 = -5");
        leavesAlone("lose 0 true", "lose 0 false = 0");
        leavesAlone("lose 4 false", "lose 4 true = 1");
        leavesAlone("blows 1 2 7 77", "blows 1 2 30 225 = 7");
        leavesAlone("swing 1 100", "swing 1 -100 = 1");
        leavesAlone("swing 0 -359", "swing 0 359 = 1");
        leavesAlone("ring 700", "ring 350 = 700");
        leavesAlone("fly 2 50 0 80 800 1", LATEST);
        leavesAlone("fly 4 0 90 100 100 -1", LATEST);
        leavesAlone("fly 0 60 20 120 700 0", LATEST);
        leavesAlone("choose 1 1", "choose 14 3 = 2");
        leavesAlone("keep 0 1 10 20 30 100 -1", FIRST);
        leavesAlone("keep 1 0 10 20 30 100 0", SECOND);
        leavesAlone("match 0 1", "match 0 -1 = 1");
        leavesAlone("match 3 -2", "match 3 0 = -2");
        leavesAlone("match 4 1", "match 4 -2 = 1");
        leavesAlone("style 0 0 100 800", STYLE);
        leavesAlone("row 1 0 0 30 100 0 0", "unrow = 4");
        leavesAlone("unrow", LAST_ROW);
        leavesAlone("rows 0 2 0 1", "unrow = 4");
        leavesAlone("sheet 3 1 5", "drop 3 = 5");
        leavesAlone("drop 2", "sheet 2 1 0 = 0");
        leavesAlone("drop 1", "sheet 1 0 4 = 4\nitem 1 0 2 -5 = 1");
        leavesAlone("sheet 1 2 60", "sheet 1 0 4 = 4\nitem 1 0 2 -5 = 1");
        leavesAlone("item 0 2 5 99", "item 0 2 5 77 = 1");
        leavesAlone("copy 0 3 0 7 2", "item 0 2 7 0 = 1\nitem 0 2 8 0 = 1");
        leavesAlone("copy 1 2 1 0 1", "item 1 0 0 0 = 1");
    }

    private static void grassSetBack() throws Exception {
        ThrowersBag rich = Script.run(check, "the grass", RICH);
        StringBuilder all = new StringBuilder();
        for (int p = 0; p < 25; p++) {
            all.append("*1 patch ").append(p).append(' ').append(rich.grass(p, 0)).append(' ').append(rich.grass(p, 1)).append('\n');
        }
        check.about("changes what it says alone");
        leavesAlone("seen 0", all.toString());
        leavesAlone("seen 5", all.toString());
        leavesAlone("patch 0 0 1", "patch 0 333 5 = 0");
        leavesAlone("patch 24 1000 9", "patch 24 142 5 = 1000");
        leavesAlone("search 8", "patch 8 100 8 = 20");
        leavesAlone("search 12", "patch 12 333 5 = 166");
    }

    /** What comes as the last of its kind is as if it had come ahead of all else. */
    private static void made() throws Exception {
        check.about("comes, and changes nothing else");
        sameLater("plain 7 8 9 10 = 5\n", STICKS, WINDS + TREES + REST);
        sameLater("winged 7 8 9 10 11 = 5\n", STICKS, WINDS + TREES + REST);
        sameLater("wind = 2\n", STICKS + WINDS, TREES + REST);
        sameLater("tree 9000 9000 1 1 = 2\n", STICKS + WINDS + TREES, REST);
    }

    private static void sameLater(String call, String ahead, String behind) throws Exception {
        asTheReference(RICH + call);
        String apart = Script.differs(check, ahead + call + behind, ahead + behind + call);
        check.is(call.trim() + (apart.isEmpty() ? "" : " (" + apart + ")"), apart.isEmpty());
    }

    private static void asTheReference(String run) throws Exception {
        ThrowersBag bag = new ThrowersBag();
        Reference reference = new Reference();
        for (String line : run.lines().toList()) {
            ask(bag, reference, line.replaceFirst(" = .*", "").trim());
        }
        for (String look : LOOKS) {
            ask(bag, reference, look);
        }
    }

    private static void ask(ThrowersBag bag, Reference reference, String call) throws Exception {
        String[] words = call.split(" ");
        Object[] args = new Object[words.length - 1];
        Class<?>[] types = new Class<?>[args.length];
        for (int i = 0; i < args.length; i++) {
            boolean isTruth = words[i + 1].matches("true|false");
            args[i] = isTruth ? (Object) Boolean.valueOf(words[i + 1]) : (Object) Integer.valueOf(words[i + 1]);
            types[i] = isTruth ? boolean.class : int.class;
        }
        Method due = Reference.class.getDeclaredMethod(words[0], types);
        Method got = ThrowersBag.class.getDeclaredMethod(words[0], types);
        check.due(call, (Integer) got.invoke(bag, args), (Integer) due.invoke(reference, args));
    }

    /** All that the face shows of an object like RICH, in less than 400 calls; what only tells comes first. */
    private static final List<String> LOOKS = looks();

    private static List<String> looks() {
        List<String> all = new ArrayList<>(List.of("ticks", "hit", "next", "best"));
        each(all, "count %d", 0, 5);
        each(all, "chosen %d", 0, 3);
        each(all, "order %d", 0, 4);
        for (int s = 0; s < 6; s++) {
            each(all, "told " + s + " %d", 0, 6);
            each(all, "points " + s + " %d", -1, 2);
            all.addAll(List.of("explain " + s, "sure " + s));
        }
        for (int r = 0; r < 5; r++) {
            all.addAll(List.of("miss " + r + " -9", "miss " + r + " 0"));
        }
        each(all, "at 1 %d", 0, 7);
        each(all, "at 5 %d", 0, 3);
        all.addAll(List.of("two 1", "two 20", "two 100"));
        each(all, "grass %d 0", 0, 24);
        each(all, "grass %d 1", 0, 24);
        // From here on calls that change: their answers tell what was.
        each(all, "match %d -2", 0, 4);
        for (int s = 0; s < 6; s++) {
            each(all, "lift " + s + " %d 0", 0, 3);
            all.add("bend " + s + " 0");
        }
        all.addAll(List.of("ring 1", "fly 2 0 90 100 800 -1", "ticks", "fly 2 0 225 100 800 -1", "ticks", "lift 2 3 300"));
        for (int w = 0; w < 3; w++) {
            all.add("fly 2 0 0 250 1000 " + w);
            for (int tick : new int[] {1, 3, 8, 12, 16}) {
                all.addAll(List.of("at " + tick + " 0", "at " + tick + " 1"));
            }
            each(all, "blows " + w + " %d 0 0", 0, 3);
        }
        all.addAll(List.of("rows 0 2 0 1", "miss 4 0", "rows 0 2 2 1", "copy 0 5 0 6 1", "rows 0 2 0 1", "miss 5 0", "drop 0"));
        all.addAll(List.of("item 1 0 0 1", "item 1 0 1 45", "copy 1 2 1 3 1", "drop 1", "drop 2", "drop 3", "unrow"));
        return all;
    }

    private static void each(List<String> all, String form, int least, int greatest) {
        for (int i = least; i <= greatest; i++) {
            all.add(String.format(form, i));
        }
    }
}
