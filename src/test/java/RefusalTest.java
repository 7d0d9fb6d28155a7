import java.util.ArrayList;
import java.util.List;
import java.util.function.Supplier;

/**
 * "One that answers a finding changes nothing but status()": each refused call is made on one of two objects that were
 * made alike, and both then answer the same questions. So are the calls that ask what would be ON AND ON.
 */
public final class RefusalTest {
    /** What a call's numbers may be, in the village: {least, most} of each; null where any number may be. */
    private static final int[] ANY = null;
    private static final int[] ONE = {0, 5};
    private static final int[] SIDE = {0, 1};
    private static final int[] SHEET = {0, 3};

    public static void main(String[] args) {
        refuseRanges();
        refuseStates();
        askOnAndOn();
        Tug.end();
    }

    // ---- greens to refuse in

    private static Tug nobody() {
        return new Tug();
    }

    /** Something of each: people of all KINDS, some ON; a text begun; sheets of each sort; an image of an earlier day. */
    private static Tug village() {
        Tug tug = Tug.onDay(12);
        tug.tell("slack 2;harvest 1;knot pub 37;man pub on;son pub tired 25;drinker pub strong 9 tired 31 on");
        tug.due("image() days(1) person(3,1) person(4,1) person(5,1) set(3,2,1) set(4,3,50) set(5,4,13) set(5,2,1) harvest(36)");
        tug.feed("slack 5");
        tug.due("sheet(0,8,5) sheet(1,16,40) sheet(2,8,0)");
        tug.due("write(0,0,1) write(0,1,20) write(0,2,-3) write(0,4,7) write(1,0,300) write(1,39,-9)");
        return tug;
    }

    /** As much as there can be: ten people, a full TAPE, sheets of 40 numbers. */
    private static Tug crowd() {
        Tug tug = nobody();
        for (int i = 0; i < 10; i++) {
            tug.due("person(" + i % 6 + "," + i % 2 + ") set(" + i + ",2," + (i < 6 ? 1 : 0) + ") set(" + i + ",3," + 9 * i + ")");
        }
        tug.due("knot(9990) sheet(0,64,40) sheet(1,64,40) sheet(2,8,40) sheet(3,16,40)");
        tug.due("write(0,0,5) write(0,39,6) write(1,0,7) write(2,39,8) write(3,39,9)");
        return tug.feed("slack 7;".repeat(14) + "slack 11");
    }

    // ---- two that must be alike

    private static void dueAlike(String call, Supplier<Tug> green, String finding) {
        Tug asked = green.get();
        Tug left = green.get();
        Tug.about = call;
        long answer = asked.ask(call);
        if (finding != null) {
            Tug.due(call, answer, Tug.number(finding));
        }
        dueStatus(asked, left, answer);
        List<String> answers = answersOf(asked);
        List<String> others = answersOf(left);
        for (int i = 0; i < Math.max(answers.size(), others.size()); i++) {
            Tug.asked++;
            if (i >= answers.size() || i >= others.size() || !answers.get(i).equals(others.get(i))) {
                Tug.fail("afterwards " + (i < answers.size() ? answers.get(i) : "nothing")
                    + ", due is " + (i < others.size() ? others.get(i) : "nothing"));
                return;
            }
        }
    }

    private static void dueStatus(Tug asked, Tug left, long answer) {
        long which = Tug.number("BEYOND") - answer;
        boolean isFinding = which >= 0 && which < 7;
        for (int i = -1; i < 7; i++) {
            long more = isFinding && (i == -1 || i == which) ? 1 : 0;
            Tug.due("status(" + i + ") afterwards", asked.ask("status(" + i + ")"), left.ask("status(" + i + ")") + more);
        }
    }

    private static List<String> answersOf(Tug tug) {
        List<String> answers = new ArrayList<>();
        askOfGreen(tug, answers);
        for (int s = 0; s < 4; s++) {
            askOfSheet(tug, answers, s);
        }
        for (String call : new String[] {"green()", "now(5)", "undo()"}) {
            add(tug, answers, call);
        }
        askOfGreen(tug, answers);
        add(tug, answers, "tear()");
        return answers;
    }

    private static void askOfGreen(Tug tug, List<String> answers) {
        for (int what = 0; what < 10; what++) {
            add(tug, answers, "now(" + what + ")");
        }
        for (int what = 0; what < 4; what++) {
            add(tug, answers, "count(" + what + ")");
        }
        long people = tug.ask("count(0)");
        for (int i = 0; i < people; i++) {
            for (int what = 0; what < 5; what++) {
                add(tug, answers, "of(" + i + "," + what + ")");
            }
        }
        long harvest = tug.ask("harvest(0)");
        answers.add("harvest is " + harvest);
        tug.ask("harvest(" + harvest + ")");
        add(tug, answers, "on(40,0)");
    }

    /** Numbers at the ends of a sheet; 2 to the 40th and more tells of how many bits they are. */
    private static void askOfSheet(Tug tug, List<String> answers, int s) {
        for (int i : new int[] {0, 1, 2, 3, 4, 5, 38, 39}) {
            add(tug, answers, "write(" + s + "," + i + "," + ((1L << 40) + 4500) + ")");
        }
        add(tug, answers, "write(" + s + ",0,0)");
        add(tug, answers, "book(" + s + ")");
    }

    private static void add(Tug tug, List<String> answers, String call) {
        answers.add(call + " = " + Tug.named(tug.ask(call)));
    }

    // ---- numbers beyond their range

    private static void refuseRanges() {
        refuseBeyond("slack", new int[] {5}, new int[] {0, 99});
        refuseBeyond("harvest", new int[] {5}, new int[] {0, 255});
        refuseBeyond("knot", new int[] {5}, new int[] {-9999, 9999});
        refuseBeyond("now", new int[] {0}, new int[] {0, 9});
        refuseBeyond("person", new int[] {1, 1}, new int[] {0, 5}, SIDE);
        refuseBeyond("of", new int[] {0, 0}, ONE, new int[] {0, 7});
        refuseBeyond("set", new int[] {0, 1, 1}, ONE, new int[] {1, 4}, SIDE);
        refuseBeyond("set", new int[] {0, 2, 0}, ONE, new int[] {1, 3}, new int[] {0, 1});
        refuseBeyond("set", new int[] {0, 3, 7}, ONE, new int[] {3, 4}, new int[] {0, 99});
        refuseBeyond("set", new int[] {0, 4, 7}, ONE, new int[] {3, 4}, new int[] {1, 20});
        refuseBeyond("turn", new int[] {0, 5}, ONE, new int[] {0, 5});
        refuseBeyond("as", new int[] {0, 0}, ONE, new int[] {0, 5});
        refuseBeyond("relieve", new int[] {1, 0}, ONE, ONE);
        refuseBeyond("days", new int[] {1}, new int[] {1, 100});
        refuseBeyond("on", new int[] {3, 0}, new int[] {0, 400}, new int[] {0, 1});
        refuseBeyond("then", new int[] {0, 3, 0}, ONE, new int[] {0, 400}, new int[] {0, 1});
        refuseBeyond("wins", new int[] {0, 1}, SIDE, new int[] {1, 9999});
        refuseBeyond("off", new int[] {0}, ONE);
        refuseBeyond("spell", new int[] {0, 5}, ONE, new int[] {1, 60});
        refuseBeyond("kind", new int[] {0, 5}, ONE, new int[] {1, 60});
        refuseBeyond("week", new int[] {0, 5}, SIDE, new int[] {1, 100});
        refuseBeyond("strong", new int[] {0, 5, 0}, ONE, new int[] {1, 60}, new int[] {-9999, 9999});
        refuseBeyond("bears", new int[] {0, 5}, ONE, new int[] {1, 60});
        refuseBeyond("fewest", new int[] {0}, SIDE);
        refuseBeyond("traitor", new int[] {5}, new int[] {1, 60});
        refuseBeyond("feed", new int[] {65, 1}, ANY, new int[] {1, 4});
        refuseBeyond("sheet", new int[] {0, 8, 3}, SHEET, ANY, ANY);
        refuseBeyond("write", new int[] {0, 1, 9}, SHEET, new int[] {0, 4}, ANY);
        refuseBeyond("copy", new int[] {0, 0, 0, 1, 2}, SHEET, new int[] {0, 3}, SHEET, new int[] {0, 3}, new int[] {0, 4});
        refuseBeyond("lays", new int[] {0}, SHEET);
        refuseBeyond("book", new int[] {0}, SHEET);
        refuseBeyond("read", new int[] {0, 0}, SHEET, ONE);
        refuseBeyond("count", new int[] {0}, new int[] {0, 3});
        refuseBeyond("status", new int[] {0}, new int[] {-1, 6});
    }

    /** Each number in turn at the ends of its range, where it is taken, and beyond them, where it is refused. */
    private static void refuseBeyond(String name, int[] numbers, int[]... ranges) {
        for (int at = 0; at < numbers.length; at++) {
            int[] range = ranges[at];
            if (range != ANY) {
                for (int v : new int[] {range[0], range[1]}) {
                    dueTaken(call(name, numbers, at, v));
                }
                for (int v : new int[] {range[0] - 1, range[1] + 1, Integer.MIN_VALUE, Integer.MAX_VALUE}) {
                    dueAlike(call(name, numbers, at, v), RefusalTest::village, "BEYOND");
                }
            }
        }
    }

    private static void dueTaken(String call) {
        Tug tug = village();
        Tug.about = call;
        long before = tug.ask("status(0)");
        tug.ask(call);
        Tug.due("BEYOND told", tug.ask("status(0)") - before, 0);
    }

    private static String call(String name, int[] numbers, int at, int v) {
        StringBuilder call = new StringBuilder(name).append('(');
        for (int i = 0; i < numbers.length; i++) {
            call.append(i == 0 ? "" : ",").append(i == at ? v : numbers[i]);
        }
        return call.append(')').toString();
    }

    // ---- findings of what there is

    private static void refuse(Supplier<Tug> green, String run) {
        for (String step : run.split(" ")) {
            int at = step.indexOf('=');
            dueAlike(step.substring(0, at), green, step.substring(at + 1));
        }
    }

    private static void refuseStates() {
        refuse(RefusalTest::nobody, "of(0,0)=BEYOND set(0,1,1)=BEYOND turn(0,0)=BEYOND as(0,0)=BEYOND relieve(0,0)=BEYOND"
            + " then(0,0,0)=BEYOND off(0)=BEYOND spell(0,1)=BEYOND kind(0,1)=BEYOND strong(0,1,0)=BEYOND bears(0,1)=BEYOND"
            + " wins(0,1)=NONE turns()=NONE fewest(0)=NONE traitor(1)=NONE undo()=NONE write(0,0,1)=MISSING copy(0,0,1,0,1)=MISSING"
            + " lays(0)=MISSING book(0)=MISSING read(0,0)=MISSING sheet(0,8,-1)=SIZE sheet(0,0,-1)=SIZE sheet(0,7,1)=BEYOND");
        refuse(RefusalTest::village, "as(0,1)=KIND as(5,3)=KIND relieve(0,1)=STATE relieve(4,0)=STATE relieve(1,1)=STATE"
            + " wins(1,9999)=NONE spell(1,5)=STATE strong(0,5,9999)=NONE bears(1,1)=NONE write(3,0,5)=MISSING"
            + " copy(0,0,3,0,1)=MISSING copy(3,0,0,0,1)=MISSING copy(0,0,1,0,1)=KIND copy(1,0,0,0,1)=KIND copy(0,0,2,0,1)=BEYOND"
            + " copy(2,0,0,0,1)=BEYOND copy(0,4,0,0,2)=BEYOND copy(0,0,0,4,2)=BEYOND copy(0,MAX,0,0,1)=BEYOND copy(0,0,0,MAX,1)=BEYOND"
            + " copy(0,0,0,0,MAX)=BEYOND copy(0,0,0,1,-1)=BEYOND lays(3)=MISSING book(3)=MISSING read(3,0)=MISSING read(0,6)=BEYOND"
            + " sheet(0,8,-1)=SIZE sheet(1,16,MIN)=SIZE sheet(1,0,-1)=SIZE sheet(0,8,41)=BEYOND sheet(1,0,41)=BEYOND"
            + " sheet(0,64,MAX)=BEYOND sheet(0,9,1)=BEYOND sheet(0,-8,1)=BEYOND write(0,5,5)=BEYOND write(2,0,5)=BEYOND");
        refuse(RefusalTest::crowd, "person(0,0)=FULL person(5,1)=FULL person(6,0)=BEYOND feed(65,1)=FULL feed(65,4)=FULL feed(65,5)=BEYOND"
            + " of(10,0)=BEYOND set(10,1,1)=BEYOND turn(10,0)=BEYOND relieve(6,10)=BEYOND relieve(0,1)=STATE as(9,4)=KIND wins(0,1)=NONE"
            + " write(0,40,1)=BEYOND copy(0,0,1,0,41)=BEYOND copy(0,1,1,0,40)=BEYOND copy(0,0,1,1,40)=BEYOND copy(0,0,2,0,40)=KIND"
            + " undo()=NONE spell(0,61)=BEYOND");
    }

    private static void askOnAndOn() {
        String[] asked = {"on(400,0)", "on(400,1)", "then(0,400,0)", "then(5,400,1)", "wins(1,500)", "wins(0,9999)", "off(0)", "off(1)",
            "turns()", "spell(0,60)", "kind(5,60)", "week(0,100)", "week(1,100)", "strong(0,60,50)", "bears(0,60)", "fewest(0)",
            "fewest(1)", "traitor(60)", "read(2,5)", "now(8)", "of(5,5)", "of(5,7)", "as(5,2)", "count(3)", "status(-1)"};
        for (String call : asked) {
            dueAlike(call, RefusalTest::village, null);
            dueAlike(call, RefusalTest::crowd, null);
        }
        dueAlike("read(1,5)", RefusalTest::village, null);
        dueAlike("read(3,9)", RefusalTest::crowd, null);
        // A sheet is all that book changes: it may be booked as it was.
        dueAlike("book(2)", RefusalTest::village, null);
    }
}
