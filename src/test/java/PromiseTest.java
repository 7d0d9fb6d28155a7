/** One method a promise: ordinary inputs, the edges that the document names, and wrong inputs. */
public final class PromiseTest {
    private static final int BEYOND = -1000000001;
    private static final int FULL = -1000000002;
    private static final int KIND = -1000000003;
    private static final int NONE = -1000000004;
    private static final int STATE = -1000000005;
    private static final int MISSING = -1000000006;
    private static final int SIZE = -1000000007;

    private static final int MAN = 0;
    private static final int SON = 1;
    private static final int DRINKER = 2;
    private static final int WOMAN = 3;
    private static final int PREACHER = 4;
    private static final int STRANGER = 5;
    private static final int PUB = 0;
    private static final int CHAPEL = 1;

    private static int promise;
    private static int asked;
    private static int wrong;

    private static void due(String call, long got, long want) {
        asked++;
        if (got != want) {
            wrong++;
            System.out.println("promise " + promise + ": " + call + " answered " + got + ", due is " + want);
        }
    }

    public static void main(String[] args) {
        promise = 1; newObject();
        promise = 2; slack();
        promise = 3; harvest();
        promise = 4; knot();
        promise = 5; now();
        promise = 6; person();
        promise = 7; of();
        promise = 8; set();
        promise = 9; turn();
        promise = 10; as();
        promise = 11; relieve();
        promise = 12; days(); daysOfKinds(); daysThatCallOut();
        promise = 13; on();
        promise = 14; then();
        promise = 15; wins();
        promise = 16; off();
        promise = 17; turns();
        promise = 18; spell();
        promise = 19; kind();
        promise = 20; week();
        promise = 21; strong();
        promise = 22; bears();
        promise = 23; fewest();
        promise = 24; traitor();
        promise = 25; feed();
        promise = 26; wipe();
        promise = 27; greenItems(); greenFaults(); greenFull();
        promise = 28; sheet();
        promise = 29; write();
        promise = 30; copy();
        promise = 31; lays();
        promise = 32; book();
        promise = 33; read();
        promise = 34; image();
        promise = 35; undo();
        promise = 36; tear();
        promise = 37; count();
        promise = 38; status();
        System.out.println(asked + " answers asked, " + wrong + " wrong");
        if (wrong != 0) {
            System.exit(1);
        }
    }

    // ---- helpers

    /** One more, ON, with STRONG: its number. */
    private static int puller(EndlessTug x, int kind, int side, int strong) {
        int number = x.person(kind, side);
        x.set(number, 2, 1);
        x.set(number, 4, strong);
        return number;
    }

    /** Ten men, all ON, by turns of the pub and of the chapel. */
    private static EndlessTug tenMen() {
        EndlessTug x = new EndlessTug();
        for (int i = 0; i < 10; i++) {
            puller(x, MAN, i & 1, 8);
        }
        return x;
    }

    /** Goes to a DAY while nobody is there, so that nothing but DAY changes. */
    private static EndlessTug onDay(int day) {
        EndlessTug x = new EndlessTug();
        for (int left = day; left > 0; left -= 100) {
            x.days(Math.min(100, left));
        }
        return x;
    }

    private static void feedText(EndlessTug x, String text) {
        for (int at = 0; at < text.length(); at++) {
            x.feed(text.charAt(at), 1);
        }
    }

    private static int tell(EndlessTug x, String text) {
        x.wipe();
        feedText(x, text);
        return x.green();
    }

    private static void dueFault(String text, int place) {
        EndlessTug x = new EndlessTug();
        due("green() of \"" + text + "\"", tell(x, text), -1 - place);
        due("people after \"" + text + "\"", x.count(0), 0);
        due("bytes after \"" + text + "\"", x.count(1), 0);
        due("knot after \"" + text + "\"", x.now(4), 0);
        due("slack after \"" + text + "\"", x.now(5), 3);
        due("harvest after \"" + text + "\"", x.harvest(0), 32);
        due("findings after \"" + text + "\"", x.status(-1), 0);
    }

    private static void dueItems(String text, int items) {
        due("green() of \"" + text + "\"", tell(new EndlessTug(), text), items);
    }

    private static void dueOf(EndlessTug x, int person, int... values) {
        for (int what = 0; what < values.length; what++) {
            due("of(" + person + ", " + what + ")", x.of(person, what), values[what]);
        }
    }

    // ---- the green

    private static void newObject() {
        EndlessTug x = new EndlessTug();
        int[] first = {0, 0, 0, 0, 0, 3, -1, 0, 0, 0};
        for (int what = 0; what < first.length; what++) {
            due("now(" + what + ")", x.now(what), first[what]);
        }
        for (int what = 0; what < 4; what++) {
            due("count(" + what + ")", x.count(what), 0);
        }
        for (int which = -1; which < 7; which++) {
            due("status(" + which + ")", x.status(which), 0);
        }
        due("harvest(32)", x.harvest(32), 32);
        due("wipe()", x.wipe(), 0);
        due("tear()", x.tear(), 0);
        due("undo()", x.undo(), NONE);
        for (int s = 0; s < 4; s++) {
            due("book(" + s + ")", x.book(s), MISSING);
        }
    }

    private static void slack() {
        EndlessTug x = new EndlessTug();
        due("slack(0)", x.slack(0), 3);
        due("slack(99)", x.slack(99), 0);
        due("slack(-1)", x.slack(-1), BEYOND);
        due("slack(100)", x.slack(100), BEYOND);
        due("slack(min)", x.slack(Integer.MIN_VALUE), BEYOND);
        due("now(5)", x.now(5), 99);
        puller(x, MAN, PUB, 20);
        due("days(1) at slack 99", x.days(1), 0);
        x.slack(19);
        due("days(1) at slack 19", x.days(1), -1);
    }

    private static void harvest() {
        EndlessTug x = new EndlessTug();
        due("harvest(255)", x.harvest(255), 32);
        due("now(2)", x.now(2), 1);
        due("harvest(254)", x.harvest(254), 255);
        due("now(2)", x.now(2), 0);
        due("harvest(0)", x.harvest(0), 254);
        due("harvest(-1)", x.harvest(-1), BEYOND);
        due("harvest(256)", x.harvest(256), BEYOND);
        due("harvest(1)", x.harvest(1), 0);
    }

    private static void knot() {
        EndlessTug x = new EndlessTug();
        due("knot(9999)", x.knot(9999), 0);
        due("knot(-9999)", x.knot(-9999), 9999);
        due("knot(10000)", x.knot(10000), BEYOND);
        due("knot(-10000)", x.knot(-10000), BEYOND);
        due("now(4)", x.now(4), -9999);
        due("now(6)", x.now(6), PUB);
        x.knot(1);
        due("now(6)", x.now(6), CHAPEL);
        x.knot(-1);
        due("now(6)", x.now(6), PUB);
        x.knot(0);
        due("now(6)", x.now(6), -1);
    }

    private static void now() {
        int[] days = {0, 6, 7, 13, 34, 35, 41, 42, 55, 56, 91};
        for (int day : days) {
            EndlessTug x = onDay(day);
            int week = day / 7 % 8;
            due("now(0) on " + day, x.now(0), day);
            due("now(1) on " + day, x.now(1), week);
            due("now(2) on " + day, x.now(2), week == 5 ? 1 : 0);
            due("now(3) on " + day, x.now(3), day % 7 == 6 ? 1 : 0);
        }
        EndlessTug x = new EndlessTug();
        puller(x, MAN, PUB, 8);
        x.person(MAN, PUB);
        puller(x, SON, CHAPEL, 5);
        puller(x, MAN, PUB, 20);
        due("now(7)", x.now(7), 13);
        due("now(8)", x.now(8), 28);
        due("now(9)", x.now(9), 7);
        due("now(-1)", x.now(-1), BEYOND);
        due("now(10)", x.now(10), BEYOND);
        x = tenMen();
        due("now(7) of ten", x.now(7), 1023);
        due("now(8) of ten", x.now(8), 40);
        due("now(9) of ten", x.now(9), 40);
    }

    // ---- people

    private static void person() {
        EndlessTug x = new EndlessTug();
        due("person(-1, 0)", x.person(-1, 0), BEYOND);
        due("person(6, 0)", x.person(6, 0), BEYOND);
        due("person(0, -1)", x.person(0, -1), BEYOND);
        due("person(0, 2)", x.person(0, 2), BEYOND);
        due("count(0)", x.count(0), 0);
        for (int i = 0; i < 10; i++) {
            due("person " + i, x.person(i % 6, i & 1), i);
            dueOf(x, i, i % 6, i & 1, 0, 0, 8);
        }
        due("person(0, 0), an 11th", x.person(0, 0), FULL);
        due("person(6, 0), an 11th", x.person(6, 0), BEYOND);
        due("person(0, 2), an 11th", x.person(0, 2), BEYOND);
        due("count(0)", x.count(0), 10);
        x = new EndlessTug();
        x.image();
        puller(x, WOMAN, CHAPEL, 20);
        x.set(0, 3, 50);
        x.undo();
        due("person(1, 0) in a place used before", x.person(1, 0), 0);
        dueOf(x, 0, 1, 0, 0, 0, 8);
    }

    private static void of() {
        EndlessTug x = new EndlessTug();
        for (int kind = 0; kind < 6; kind++) {
            x.person(kind, PUB);
            x.set(kind, 3, 19);
        }
        dueOf(x, MAN, MAN, 0, 0, 19, 8, 7, 4, 0);
        dueOf(x, SON, SON, 0, 0, 19, 8, 9, 3, 0);
        dueOf(x, DRINKER, DRINKER, 0, 0, 19, 8, 7, 4, 0);
        dueOf(x, WOMAN, WOMAN, 0, 0, 19, 8, 7, 2, 0);
        dueOf(x, PREACHER, PREACHER, 0, 0, 19, 8, 9, 3, 0);
        dueOf(x, STRANGER, STRANGER, 0, 0, 19, 8, 7, 2, 0);
        due("of(-1, 0)", x.of(-1, 0), BEYOND);
        due("of(6, 0)", x.of(6, 0), BEYOND);
        due("of(0, -1)", x.of(0, -1), BEYOND);
        due("of(0, 8)", x.of(0, 8), BEYOND);
        ofTooTired(x);
        ofLetsGo();
        ofSunday();
        ofStranger();
    }

    private static void ofTooTired(EndlessTug x) {
        int[] pulls = {0, 2, 0, 0, 2, 0};
        for (int kind = 0; kind < 6; kind++) {
            x.set(kind, 3, 99);
            x.set(kind, 4, 9);
            due("of(" + kind + ", 5), too tired", x.of(kind, 5), pulls[kind]);
            x.set(kind, 4, 3);
            due("of(" + kind + ", 5), far too tired", x.of(kind, 5), pulls[kind]);
        }
    }

    /** Each KIND lets go from this TIRED on, on a plain weekday, with KNOT 0. */
    private static void ofLetsGo() {
        int[] from = {90, 95, 90, 30, 95, 20};
        int[] inHarvest = {90, 95, 90, 90, 95, 20};
        for (int kind = 0; kind < 6; kind++) {
            EndlessTug x = new EndlessTug();
            x.person(kind, CHAPEL);
            for (int tired = 0; tired < 100; tired++) {
                x.set(0, 3, tired);
                due(kind + " lets go at " + tired, x.of(0, 7), tired >= from[kind] ? 1 : 0);
                x.harvest(1);
                due(kind + " lets go in harvest at " + tired, x.of(0, 7), tired >= inHarvest[kind] ? 1 : 0);
                x.harvest(0);
            }
        }
    }

    private static void ofSunday() {
        EndlessTug x = onDay(6);
        for (int kind = 0; kind < 6; kind++) {
            x.person(kind, CHAPEL);
        }
        int[] pulls = {8, 10, 1, 8, 20, 1};
        int[] tires = {4, 3, 7, 2, 0, 5};
        int[] goes = {0, 0, 1, 0, 0, 1};
        for (int kind = 0; kind < 6; kind++) {
            due(kind + " pulls on a Sunday", x.of(kind, 5), pulls[kind]);
            due(kind + " tires on a Sunday", x.of(kind, 6), tires[kind]);
            due(kind + " lets go on a Sunday", x.of(kind, 7), goes[kind]);
        }
        x.set(DRINKER, 4, 1);
        x.set(DRINKER, 3, 99);
        due("a drinker, too tired, on a Sunday", x.of(DRINKER, 5), 1);
        x.harvest(1);
        due("a woman in harvest", x.of(WOMAN, 5), 12);
        x.set(WOMAN, 3, 99);
        due("a tired woman in harvest", x.of(WOMAN, 5), 4);
        x.set(PREACHER, 3, 99);
        due("a tired preacher on a Sunday", x.of(PREACHER, 5), 4);
        x.knot(1);
        due("a stranger ahead on a Sunday lets go", x.of(STRANGER, 7), 1);
        due("a stranger ahead on a Sunday pulls", x.of(STRANGER, 5), 0);
    }

    private static void ofStranger() {
        EndlessTug x = new EndlessTug();
        x.person(STRANGER, PUB);
        x.person(STRANGER, CHAPEL);
        int[][] pulls = {{0, 8}, {8, 8}, {8, 0}};
        int[][] goes = {{0, 1}, {1, 1}, {1, 0}};
        for (int knot = -1; knot <= 1; knot++) {
            x.knot(knot);
            for (int side = 0; side < 2; side++) {
                x.set(side, 3, 0);
                due("stranger of " + side + " pulls at " + knot, x.of(side, 5), pulls[knot + 1][side]);
                x.set(side, 3, 20);
                due("stranger of " + side + " lets go at " + knot, x.of(side, 7), goes[knot + 1][side]);
                x.set(side, 3, 90);
                due("tired stranger of " + side + " lets go at " + knot, x.of(side, 7), 1);
            }
        }
    }

    private static void set() {
        EndlessTug x = new EndlessTug();
        due("set(0, 1, 1), nobody", x.set(0, 1, 1), BEYOND);
        x.person(MAN, PUB);
        int[][] ranges = {{1, 0, 1, 0}, {2, 0, 1, 0}, {3, 0, 99, 0}, {4, 1, 20, 8}};
        for (int[] range : ranges) {
            int what = range[0];
            due("set " + what + " to the least", x.set(0, what, range[1]), range[3]);
            due("set " + what + " to the most", x.set(0, what, range[2]), range[1]);
            due("set " + what + " too little", x.set(0, what, range[1] - 1), BEYOND);
            due("set " + what + " too much", x.set(0, what, range[2] + 1), BEYOND);
            due("of " + what, x.of(0, what), range[2]);
        }
        due("set(0, 0, 1)", x.set(0, 0, 1), BEYOND);
        due("set(0, 5, 1)", x.set(0, 5, 1), BEYOND);
        due("set(-1, 1, 1)", x.set(-1, 1, 1), BEYOND);
        due("set(1, 1, 1)", x.set(1, 1, 1), BEYOND);
    }

    private static void turn() {
        EndlessTug x = new EndlessTug();
        due("turn(0, 0), nobody", x.turn(0, 0), BEYOND);
        x.person(WOMAN, PUB);
        x.set(0, 4, 11);
        due("turn(0, 4)", x.turn(0, PREACHER), WOMAN);
        due("turn(0, 4)", x.turn(0, PREACHER), PREACHER);
        due("turn(0, 6)", x.turn(0, 6), BEYOND);
        due("turn(0, -1)", x.turn(0, -1), BEYOND);
        due("turn(1, 0)", x.turn(1, 0), BEYOND);
        due("turn(-1, 0)", x.turn(-1, 0), BEYOND);
        dueOf(x, 0, PREACHER, 0, 0, 0, 11, 13, 3, 0);
    }

    private static void as() {
        // The kinds as which each kind may be asked, as sets.
        int[] also = {1 << MAN, 1 << SON | 1, 1 << DRINKER | 1, 1 << WOMAN | 1, 1 << PREACHER | 1 << SON | 1, 1 << STRANGER | 1 << DRINKER | 1};
        EndlessTug x = new EndlessTug();
        for (int kind = 0; kind < 6; kind++) {
            x.person(kind, PUB);
            x.set(kind, 4, 10 + kind);
            for (int other = 0; other < 6; other++) {
                boolean may = (also[kind] >> other & 1) == 1;
                due("as(" + kind + ", " + other + ")", x.as(kind, other), may ? 10 + kind : KIND);
            }
        }
        due("as(6, 0)", x.as(6, 0), BEYOND);
        due("as(-1, 0)", x.as(-1, 0), BEYOND);
        due("as(0, 6)", x.as(0, 6), BEYOND);
        due("as(0, -1)", x.as(0, -1), BEYOND);
    }

    private static void relieve() {
        EndlessTug x = new EndlessTug();
        puller(x, MAN, PUB, 8);
        x.person(SON, PUB);
        x.person(MAN, CHAPEL);
        puller(x, MAN, PUB, 8);
        due("relieve(1, 0)", x.relieve(1, 0), 1);
        due("now(7)", x.now(7), 10);
        due("relieve(1, 0), the wrong way", x.relieve(1, 0), STATE);
        due("relieve(2, 1), another side", x.relieve(2, 1), STATE);
        due("relieve(1, 3), both on", x.relieve(1, 3), STATE);
        due("relieve(0, 0), both off", x.relieve(0, 0), STATE);
        due("relieve(1, 1)", x.relieve(1, 1), STATE);
        due("relieve(4, 1)", x.relieve(4, 1), BEYOND);
        due("relieve(0, 4)", x.relieve(0, 4), BEYOND);
        due("relieve(-1, 1)", x.relieve(-1, 1), BEYOND);
        due("relieve(0, -1)", x.relieve(0, -1), BEYOND);
        due("now(7)", x.now(7), 10);
    }

    // ---- days

    private static void days() {
        EndlessTug x = new EndlessTug();
        x.slack(0);
        puller(x, MAN, PUB, 8);
        puller(x, SON, CHAPEL, 8);
        due("days(1)", x.days(1), 2);
        dueOf(x, 0, MAN, 0, 1, 4, 8);
        dueOf(x, 1, SON, 1, 1, 3, 8);
        due("days(3)", x.days(3), 9);
        due("now(0)", x.now(0), 4);
        due("days(0)", x.days(0), BEYOND);
        due("days(-1)", x.days(-1), BEYOND);
        due("days(101)", x.days(101), BEYOND);
        due("days(min)", x.days(Integer.MIN_VALUE), BEYOND);
        due("days(max)", x.days(Integer.MAX_VALUE), BEYOND);
        due("now(0)", x.now(0), 4);
        x.days(100);
        due("now(0)", x.now(0), 104);
        daysHeld();
        daysRest();
    }

    private static void daysHeld() {
        EndlessTug x = new EndlessTug();
        x.slack(0);
        puller(x, MAN, CHAPEL, 20);
        x.knot(9985);
        due("days(1)", x.days(1), 9999);
        x.set(0, 1, PUB);
        x.knot(-9985);
        due("days(1)", x.days(1), -9999);
        x = new EndlessTug();
        puller(x, MAN, CHAPEL, 20);
        puller(x, MAN, PUB, 16);
        due("by 1 above SLACK", x.days(1), 1);
        x = new EndlessTug();
        puller(x, MAN, CHAPEL, 17);
        puller(x, MAN, PUB, 20);
        due("by SLACK alone", x.days(1), 0);
    }

    private static void daysRest() {
        EndlessTug x = new EndlessTug();
        puller(x, MAN, PUB, 8);
        for (int i = 1; i < 5; i++) {
            x.person(i, PUB);
        }
        x.set(0, 3, 85);
        x.set(1, 3, 99);
        x.set(2, 3, 11);
        x.set(3, 3, 10);
        x.set(4, 3, 9);
        x.days(1);
        int[] tired = {89, 89, 1, 0, 0};
        for (int i = 0; i < 5; i++) {
            due("of(" + i + ", 3)", x.of(i, 3), tired[i]);
        }
        due("now(7)", x.now(7), 1);
        x = new EndlessTug();
        puller(x, MAN, PUB, 8);
        x.set(0, 3, 97);
        x.days(1);
        due("TIRED is 99 at most", x.of(0, 3), 99);
    }

    private static void daysOfKinds() {
        // A stranger that is ahead by the KNOT of that evening doesn't let go.
        EndlessTug x = new EndlessTug();
        puller(x, STRANGER, CHAPEL, 8);
        x.set(0, 3, 18);
        x.person(MAN, CHAPEL);
        due("days(1)", x.days(1), 4);
        due("now(7), the stranger is ahead", x.now(7), 1);
        x = new EndlessTug();
        x.slack(99);
        puller(x, STRANGER, CHAPEL, 8);
        x.set(0, 3, 18);
        x.person(MAN, CHAPEL);
        due("days(1)", x.days(1), 0);
        due("now(7), the stranger isn't ahead", x.now(7), 2);
        due("of(0, 3)", x.of(0, 3), 20);
        // SUNDAY holds for all of that day, and for no other.
        x = onDay(5);
        puller(x, DRINKER, PUB, 8);
        puller(x, PREACHER, CHAPEL, 8);
        x.person(MAN, PUB);
        due("a Saturday", x.days(1), 0);
        due("now(7)", x.now(7), 3);
        due("a Sunday", x.days(1), 16);
        due("of(0, 3)", x.of(0, 3), 11);
        due("of(1, 3)", x.of(1, 3), 3);
        due("now(7)", x.now(7), 6);
        due("a Monday", x.days(1), 16);
        // So does HARVEST: on its last day a woman that is tired stays.
        x = onDay(41);
        puller(x, WOMAN, PUB, 8);
        x.set(0, 3, 40);
        x.person(MAN, PUB);
        due("the last of harvest", x.days(1), -5);
        due("now(7)", x.now(7), 1);
        due("the first day behind it", x.days(1), -6);
        due("now(7)", x.now(7), 2);
    }

    private static void daysThatCallOut() {
        EndlessTug x = new EndlessTug();
        x.person(MAN, PUB);
        x.person(MAN, CHAPEL);
        x.person(MAN, PUB);
        x.person(MAN, CHAPEL);
        x.set(1, 3, 30);
        x.set(3, 3, 25);
        due("days(1)", x.days(1), 0);
        due("now(7)", x.now(7), 9);
        due("of(0, 3)", x.of(0, 3), 0);
        due("of(3, 3)", x.of(3, 3), 15);
        // One that let go comes ON again, if it is the least tired one of its side.
        x = new EndlessTug();
        puller(x, MAN, PUB, 8);
        x.set(0, 3, 86);
        x.person(MAN, PUB);
        x.set(1, 3, 99);
        x.person(MAN, CHAPEL);
        x.days(1);
        due("now(7), the other had rested more", x.now(7), 6);
        x = new EndlessTug();
        puller(x, DRINKER, PUB, 8);
        x.person(MAN, PUB);
        x.set(1, 3, 99);
        x.days(6);
        x.set(0, 3, 0);
        x.set(1, 3, 99);
        x.days(1);
        due("now(7), the drinker comes again", x.now(7), 1);
        due("of(0, 3)", x.of(0, 3), 7);
    }

    private static EndlessTug lonelyMan() {
        EndlessTug x = new EndlessTug();
        x.slack(0);
        puller(x, MAN, PUB, 8);
        return x;
    }

    /** KNOT goes 1 a day to the chapel: 2 of a son that can't be more tired, less SLACK. */
    private static EndlessTug steadySon(int knot) {
        EndlessTug x = new EndlessTug();
        x.slack(1);
        puller(x, SON, CHAPEL, 1);
        x.set(0, 3, 99);
        x.knot(knot);
        return x;
    }

    private static void on() {
        EndlessTug x = lonelyMan();
        int[] knots = {0, -8, -16, -24, -31, -38, -44};
        for (int n = 0; n < knots.length; n++) {
            due("on(" + n + ", 0)", x.on(n, 0), knots[n]);
            due("on(" + n + ", 1)", x.on(n, 1), 1);
        }
        due("now(0)", x.now(0), 0);
        due("now(4)", x.now(4), 0);
        due("of(0, 3)", x.of(0, 3), 0);
        due("on(-1, 0)", x.on(-1, 0), BEYOND);
        due("on(401, 0)", x.on(401, 0), BEYOND);
        due("on(0, -1)", x.on(0, -1), BEYOND);
        due("on(0, 2)", x.on(0, 2), BEYOND);
        due("on(400, 0)", steadySon(0).on(400, 0), 400);
        x.person(MAN, PUB);
        x.set(0, 3, 86);
        due("on(1, 1)", x.on(1, 1), 2);
        due("now(7)", x.now(7), 1);
    }

    private static void then() {
        EndlessTug x = lonelyMan();
        x.person(MAN, PUB);
        x.set(0, 3, 82);
        x.set(1, 3, 25);
        int[][] due = {{1, 82, 0, 25}, {1, 86, 0, 15}, {0, 90, 1, 5}, {0, 80, 1, 9}};
        for (int n = 0; n < due.length; n++) {
            for (int i = 0; i < 4; i++) {
                due("then(" + i / 2 + ", " + n + ", " + i % 2 + ")", x.then(i / 2, n, i % 2), due[n][i]);
            }
        }
        due("of(0, 3)", x.of(0, 3), 82);
        due("of(1, 2)", x.of(1, 2), 0);
        due("then(0, 400, 1)", steadySon(0).then(0, 400, 1), 99);
        due("then(2, 0, 0)", x.then(2, 0, 0), BEYOND);
        due("then(-1, 0, 0)", x.then(-1, 0, 0), BEYOND);
        due("then(0, -1, 0)", x.then(0, -1, 0), BEYOND);
        due("then(0, 401, 0)", x.then(0, 401, 0), BEYOND);
        due("then(0, 0, 2)", x.then(0, 0, 2), BEYOND);
        due("then(0, 0, -1)", x.then(0, 0, -1), BEYOND);
    }

    private static void wins() {
        EndlessTug x = lonelyMan();
        due("wins(0, 1)", x.wins(PUB, 1), 1);
        due("wins(0, 8)", x.wins(PUB, 8), 1);
        due("wins(0, 9)", x.wins(PUB, 9), 2);
        due("wins(0, 24)", x.wins(PUB, 24), 3);
        due("wins(0, 25)", x.wins(PUB, 25), 4);
        due("wins(1, 1)", x.wins(CHAPEL, 1), NONE);
        x.knot(5);
        due("wins(1, 5)", x.wins(CHAPEL, 5), 0);
        due("wins(1, 6)", x.wins(CHAPEL, 6), NONE);
        due("now(4)", x.now(4), 5);
        due("wins(1, 1), in 400", steadySon(-399).wins(CHAPEL, 1), 400);
        due("wins(1, 1), in 401", steadySon(-400).wins(CHAPEL, 1), NONE);
        due("wins(1, 9999)", steadySon(9899).wins(CHAPEL, 9999), 100);
        due("wins(0, 0)", x.wins(0, 0), BEYOND);
        due("wins(0, 10000)", x.wins(0, 10000), BEYOND);
        due("wins(2, 1)", x.wins(2, 1), BEYOND);
        due("wins(-1, 1)", x.wins(-1, 1), BEYOND);
    }

    private static void off() {
        EndlessTug x = lonelyMan();
        due("off(0), alone", x.off(0), NONE);
        x.person(MAN, PUB);
        due("off(0)", x.off(0), 23);
        due("off(1)", x.off(1), 0);
        x.set(0, 3, 85);
        due("off(0)", x.off(0), 2);
        x.set(0, 3, 86);
        due("off(0)", x.off(0), 1);
        due("of(0, 2)", x.of(0, 2), 1);
        due("off(2)", x.off(2), BEYOND);
        due("off(-1)", x.off(-1), BEYOND);
    }

    private static void turns() {
        due("turns(), nobody", new EndlessTug().turns(), NONE);
        due("one instead of none", lonelyMan().turns(), 1);
        due("none instead of one", steadySon(-1).turns(), 1);
        due("in 7", steadySon(-7).turns(), 7);
        due("in 400", steadySon(-400).turns(), 400);
        due("in 401", steadySon(-401).turns(), NONE);
        due("the same one", steadySon(1).turns(), NONE);
        EndlessTug x = lonelyMan();
        x.knot(23);
        due("another one", x.turns(), 3);
        due("now(4)", x.now(4), 23);
    }

    // ---- what is best

    private static void spell() {
        EndlessTug x = new EndlessTug();
        due("spell(0, 1), nobody", x.spell(0, 1), BEYOND);
        puller(x, MAN, PUB, 8);
        x.person(MAN, CHAPEL);
        x.set(1, 4, 20);
        due("spell(0, 1)", x.spell(0, 1), NONE);
        due("spell(1, 1)", x.spell(1, 1), STATE);
        due("spell(1, 0)", x.spell(1, 0), BEYOND);
        puller(x, MAN, PUB, 1);
        x.person(MAN, PUB);
        x.set(3, 4, 3);
        x.person(MAN, PUB);
        x.set(4, 4, 9);
        x.person(MAN, PUB);
        x.set(5, 4, 9);
        due("spell(0, 1)", x.spell(0, 1), 4);
        due("spell(2, 60)", x.spell(2, 60) >= 3 ? 1 : 0, 1);
        due("now(7)", x.now(7), 5);
        due("spell(0, 61)", x.spell(0, 61), BEYOND);
        due("spell(6, 1)", x.spell(6, 1), BEYOND);
        due("spell(-1, 1)", x.spell(-1, 1), BEYOND);
        // Of the chapel, too, farthest is towards its own side.
        x = new EndlessTug();
        x.slack(0);
        puller(x, MAN, CHAPEL, 8);
        x.person(MAN, CHAPEL);
        x.person(SON, CHAPEL);
        due("spell(0, 1)", x.spell(0, 1), 2);
        x.set(1, 4, 20);
        due("spell(0, 1)", x.spell(0, 1), 1);
        x.relieve(1, 0);
        due("spell(1, 1), by the first", x.spell(1, 1), 2);
        x.set(0, 4, 11);
        due("spell(1, 1), by the first", x.spell(1, 1), 0);
    }

    private static void kind() {
        EndlessTug x = lonelyMan();
        due("a weekday", x.kind(0, 1), SON);
        x.set(0, 1, CHAPEL);
        due("a weekday, chapel", x.kind(0, 1), SON);
        x.harvest(1);
        due("in harvest", x.kind(0, 1), WOMAN);
        due("of(0, 0)", x.of(0, 0), MAN);
        x.set(0, 2, 0);
        due("one that is off", x.kind(0, 1), MAN);
        due("one that comes", x.kind(0, 2), WOMAN);
        x = onDay(6);
        x.slack(0);
        puller(x, MAN, PUB, 8);
        due("a Sunday", x.kind(0, 1), PREACHER);
        due("kind(0, 0)", x.kind(0, 0), BEYOND);
        due("kind(0, 61)", x.kind(0, 61), BEYOND);
        due("kind(1, 1)", x.kind(1, 1), BEYOND);
        due("kind(-1, 1)", x.kind(-1, 1), BEYOND);
        due("kind(0, 60)", x.kind(0, 60) >= 0 ? 1 : 0, 1);
    }

    private static void week() {
        EndlessTug x = new EndlessTug();
        due("week(0, 1), nobody", x.week(PUB, 1), 0);
        puller(x, WOMAN, PUB, 8);
        due("to the pub", x.week(PUB, 1), 0);
        due("to the chapel", x.week(CHAPEL, 1), 1);
        x.harvest(1);
        due("to the pub, harvest already", x.week(PUB, 1), 1);
        due("to the chapel, harvest already", x.week(CHAPEL, 1), 0);
        due("harvest(255)", x.harvest(255), 1);
        due("to the chapel, in the second week", onWeek(1).week(CHAPEL, 7), 1);
        due("week(2, 1)", x.week(2, 1), BEYOND);
        due("week(-1, 1)", x.week(-1, 1), BEYOND);
        due("week(0, 0)", x.week(0, 0), BEYOND);
        due("week(0, 101)", x.week(0, 101), BEYOND);
        for (int n = 1; n <= 100; n += 11) {
            due("week(0, " + n + "), each week being harvest", x.week(PUB, n), bestWeek(x, n));
        }
    }

    /** Which week, taken out of a harvest of all weeks, is best for the pub, by on(). */
    private static int bestWeek(EndlessTug x, int n) {
        int best = 0;
        int least = 10000;
        for (int week = 0; week < 8; week++) {
            x.harvest(255 ^ 1 << week);
            int knot = x.on(n, 0);
            if (knot < least) {
                least = knot;
                best = week;
            }
        }
        x.harvest(255);
        return best;
    }

    private static EndlessTug onWeek(int week) {
        EndlessTug x = onDay(7 * week);
        x.harvest(255);
        puller(x, WOMAN, PUB, 8);
        return x;
    }

    private static void strong() {
        EndlessTug x = lonelyMan();
        due("strong(0, 1, 5)", x.strong(0, 1, 5), 5);
        due("strong(0, 1, 20)", x.strong(0, 1, 20), 20);
        due("strong(0, 1, 21)", x.strong(0, 1, 21), NONE);
        due("strong(0, 1, 0)", x.strong(0, 1, 0), 1);
        due("strong(0, 1, -9999)", x.strong(0, 1, -9999), 1);
        due("strong(0, 60, 9999)", x.strong(0, 60, 9999), NONE);
        due("of(0, 4)", x.of(0, 4), 8);
        x.knot(7);
        due("strong(0, 1, 5), from the other side", x.strong(0, 1, 5), 12);
        x.set(0, 1, CHAPEL);
        due("strong(0, 1, 12), of the chapel", x.strong(0, 1, 12), 5);
        due("strong(1, 1, 0)", x.strong(1, 1, 0), BEYOND);
        due("strong(-1, 1, 0)", x.strong(-1, 1, 0), BEYOND);
        due("strong(0, 0, 0)", x.strong(0, 0, 0), BEYOND);
        due("strong(0, 61, 0)", x.strong(0, 61, 0), BEYOND);
        due("strong(0, 1, 10000)", x.strong(0, 1, 10000), BEYOND);
        due("strong(0, 1, -10000)", x.strong(0, 1, -10000), BEYOND);
    }

    private static void bears() {
        EndlessTug x = lonelyMan();
        due("bears(0, 1), alone", x.bears(0, 1), 99);
        due("bears(0, 60), alone", x.bears(0, 60), 99);
        x.person(MAN, PUB);
        due("bears(0, 1)", x.bears(0, 1), 85);
        due("bears(0, 2)", x.bears(0, 2), 81);
        due("bears(1, 1), one that is off", x.bears(1, 1), NONE);
        due("of(0, 3)", x.of(0, 3), 0);
        x.turn(0, DRINKER);
        due("bears(0, 7), over a Sunday", x.bears(0, 7), NONE);
        due("bears(0, 6)", x.bears(0, 6), 65);
        // On a Sunday the drinker lets go, and comes again only if the other one isn't less tired.
        EndlessTug y = onDay(6);
        puller(y, DRINKER, PUB, 8);
        y.person(MAN, PUB);
        y.set(1, 3, 17);
        due("bears(0, 1), not tired at all", y.bears(0, 1), 0);
        y.set(1, 3, 16);
        due("bears(0, 1), not even so", y.bears(0, 1), NONE);
        due("bears(2, 1)", x.bears(2, 1), BEYOND);
        due("bears(-1, 1)", x.bears(-1, 1), BEYOND);
        due("bears(0, 0)", x.bears(0, 0), BEYOND);
        due("bears(0, 61)", x.bears(0, 61), BEYOND);
    }

    private static void fewest() {
        EndlessTug x = new EndlessTug();
        due("fewest(0), nobody", x.fewest(PUB), NONE);
        puller(x, MAN, CHAPEL, 8);
        due("fewest(1), enough as it is", x.fewest(CHAPEL), 0);
        x.person(MAN, PUB);
        due("fewest(0), just as much", x.fewest(PUB), NONE);
        x.set(1, 4, 5);
        x.person(MAN, PUB);
        x.set(2, 4, 4);
        due("fewest(0), both", x.fewest(PUB), 6);
        x.person(MAN, PUB);
        x.set(3, 4, 9);
        x.person(MAN, PUB);
        x.set(4, 4, 20);
        due("fewest(0), one of two", x.fewest(PUB), 8);
        x.person(MAN, CHAPEL);
        x.set(5, 2, 1);
        due("fewest(0), the strongest", x.fewest(PUB), 16);
        x.set(4, 2, 1);
        due("fewest(0), with one that is on", x.fewest(PUB), 0);
        due("fewest(1)", x.fewest(CHAPEL), NONE);
        due("now(7)", x.now(7), 49);
        due("fewest(2)", x.fewest(2), BEYOND);
        due("fewest(-1)", x.fewest(-1), BEYOND);
        x = new EndlessTug();
        for (int i = 0; i < 9; i++) {
            x.person(MAN, CHAPEL);
            x.set(i, 4, 2);
        }
        puller(x, MAN, PUB, 17);
        due("fewest(1), all", x.fewest(CHAPEL), 511);
        x.set(9, 4, 18);
        due("fewest(1), not even all", x.fewest(CHAPEL), NONE);
    }

    private static void traitor() {
        EndlessTug x = new EndlessTug();
        due("traitor(0), nobody", x.traitor(0), BEYOND);
        due("traitor(1), nobody", x.traitor(1), NONE);
        x.slack(0);
        puller(x, MAN, PUB, 8);
        puller(x, MAN, CHAPEL, 8);
        due("traitor(1), of two alike", x.traitor(1), 0);
        x.set(1, 4, 9);
        due("traitor(1), the stronger", x.traitor(1), 1);
        x.set(1, 4, 7);
        due("traitor(1), the stronger", x.traitor(1), 0);
        due("of(0, 1)", x.of(0, 1), PUB);
        x.slack(99);
        due("traitor(1), nothing moves", x.traitor(1), 0);
        due("traitor(61)", x.traitor(61), BEYOND);
        due("traitor(60)", x.traitor(60), 0);
        // Those that go over leave one side to be called out, and hold the other one, or are called out there.
        x = new EndlessTug();
        x.slack(0);
        puller(x, MAN, CHAPEL, 8);
        x.person(MAN, CHAPEL);
        x.set(1, 4, 20);
        x.person(MAN, CHAPEL);
        due("traitor(1), of a chapel alone", x.traitor(1), 0);
        due("traitor(2), of a chapel alone", x.traitor(2), 1);
    }

    // ---- the text

    private static void feed() {
        EndlessTug x = new EndlessTug();
        due("feed(0, 0)", x.feed(0, 0), BEYOND);
        due("feed(0, 5)", x.feed(0, 5), BEYOND);
        due("feed(0, -1)", x.feed(0, -1), BEYOND);
        due("feed 'slac'", x.feed(0x736c6163, 4), 4);
        due("feed 'k 7'", x.feed(0x416b2037, 3), 7);
        due("feed ' ;'", x.feed(0x4141203b, 2), 9);
        due("feed 's'", x.feed(0x41414173, 1), 10);
        due("feed 'lack'", x.feed(0x6c61636b, 4), 14);
        due("feed ' 12'", x.feed(0x00203132, 3), 17);
        due("green()", x.green(), 2);
        due("now(5)", x.now(5), 12);
        for (int i = 1; i <= 29; i++) {
            due("feed", x.feed(-1, 4), 4 * i);
        }
        due("feed", x.feed(0, 1), 117);
        due("feed(0, 4) behind 117", x.feed(0, 4), FULL);
        due("feed(0, 5) behind 117", x.feed(0, 5), BEYOND);
        due("count(1)", x.count(1), 117);
        due("feed(0, 3)", x.feed(0, 3), 120);
        due("feed(0, 1) behind 120", x.feed(0, 1), FULL);
        due("feed(0, 0) behind 120", x.feed(0, 0), BEYOND);
        due("a byte of 255", x.green(), -1);
    }

    private static void wipe() {
        EndlessTug x = new EndlessTug();
        feedText(x, "slack 7");
        due("wipe()", x.wipe(), 7);
        due("count(1)", x.count(1), 0);
        due("wipe()", x.wipe(), 0);
        feedText(x, "slack 8");
        due("green()", x.green(), 1);
        due("now(5)", x.now(5), 8);
    }

    private static void greenItems() {
        EndlessTug x = new EndlessTug();
        due("green()", tell(x, "man pub;son chapel on;drinker pub strong 20"), 3);
        dueOf(x, 0, MAN, PUB, 0, 0, 8);
        dueOf(x, 1, SON, CHAPEL, 1, 0, 8);
        dueOf(x, 2, DRINKER, PUB, 0, 0, 20);
        due("green()", tell(x, " woman chapel strong1tired99on ; preacher pub tired 0 ; stranger chapel tired 7 on "), 3);
        dueOf(x, 3, WOMAN, CHAPEL, 1, 99, 1);
        dueOf(x, 4, PREACHER, PUB, 0, 0, 8);
        dueOf(x, 5, STRANGER, CHAPEL, 1, 7, 8);
        due("count(1)", x.count(1), 0);
        due("green()", tell(x, "knot pub 9999;slack 99;harvest 0;harvest 7;plain 5"), 5);
        due("now(4)", x.now(4), -9999);
        due("now(5)", x.now(5), 99);
        due("harvest(255)", x.harvest(255), 129);
        due("green()", tell(x, "knot chapel 9999;slack 0;plain 0;plain 1;harvest 1"), 5);
        due("now(4)", x.now(4), 9999);
        due("now(5)", x.now(5), 0);
        due("harvest(32)", x.harvest(32), 254);
        due("the later ones hold", tell(x, "knot chapel 5;knot pub 0;slack 7;slack 8"), 4);
        due("now(4)", x.now(4), 0);
        due("now(5)", x.now(5), 8);
        due("count(0)", x.count(0), 6);
        dueItems("slack 0000000000000000000000000000000099", 1);
        dueItems("   slack    1   ;   slack    2   ", 2);
        dueItems("slack 1" + ";slack 1".repeat(14), 15);
        dueItems("plain0;harvest7;knotted", -17);
        dueItems(" ".repeat(113) + "slack 7", 1);
        dueItems(" ".repeat(112) + "man pub ", 1);
        dueItems(" ".repeat(113) + "man pub", 1);
        due("bytes that stood before", tell(x, "slack 77"), 1);
        due("bytes that stood before", tell(x, "slack 7"), 1);
        due("now(5)", x.now(5), 7);
    }

    private static void greenFaults() {
        dueFault("", 0);
        dueFault("   ", 3);
        dueFault(";", 0);
        dueFault("man pub;", 8);
        dueFault("man pub; ", 9);
        dueFault("man pub;;man pub", 8);
        dueFault("man", 3);
        dueFault("man ", 4);
        dueFault("man bar", 4);
        dueFault("manpub", 0);
        dueFault("men pub", 0);
        dueFault("mann pub", 0);
        dueFault("ma pub", 0);
        dueFault("pub man", 0);
        dueFault("7", 0);
        dueFault("man pub strong", 14);
        dueFault("man pub strong 0", 15);
        dueFault("man pub strong 21", 15);
        dueFault("man pub strong on", 15);
        dueFault("man pub strong 5 strong 6", 17);
        dueFault("man pub tired 100", 14);
        dueFault("man pub tired 5 strong 6", 16);
        dueFault("man pub tired;", 13);
        dueFault("man pub on on", 11);
        dueFault("man pub on tired 5", 11);
        dueFault("man pub 5", 8);
        dueFault("man pub man pub", 8);
        dueFault("slack 3; man pub ;slack 100", 24);
        dueFault("knot pub 5;slack 3 4", 19);
        dueFault("harvest 1; harvest 8", 19);
        dueFault("plain 8", 6);
        dueFault("plain pub", 6);
        dueFault("harvest", 7);
        dueFault("knot 5", 5);
        dueFault("knot pub", 8);
        dueFault("knot pub 10000", 9);
        dueFault("knot pub 99990", 9);
        dueFault("knot pub 99999", 9);
        dueFault("knot pub 4294967296", 9);
        dueFault("knot chapel 18446744073709551616", 12);
        dueFault("knot chapel -5", 12);
        dueFault("slack", 5);
        dueFault("slack 100", 6);
        dueFault("Slack 1", 0);
        dueFault("xlack 1", 0);
        dueFault("slacx 1", 0);
        dueFault("slackz 1", 0);
        dueFault("nan pub", 0);
        dueFault("man qub", 4);
        dueFault("slack 1.", 7);
        dueFault("slack\t1", 5);
        dueFault("slack 1\n", 7);
        dueFault("slack 1,slack 2", 7);
        dueFault("slack 1 :", 8);
        dueFault("slack 1 /", 8);
        dueFault("sl`ck 1", 0);
        dueFault("slack{ 1", 5);
        dueFault("slack 1;" + (char) 233, 8);
        dueFault("slack 1;" + (char) 0, 8);
        dueFault("slack 1;".repeat(15), 120);
    }

    private static void greenFull() {
        EndlessTug x = new EndlessTug();
        for (int i = 0; i < 8; i++) {
            x.person(MAN, PUB);
        }
        due("an 11th", tell(x, "slack 7; man pub;man pub; son pub"), -27);
        due("count(0)", x.count(0), 8);
        due("now(5)", x.now(5), 3);
        due("a 10th", tell(x, "son chapel;son chapel strong 3 on"), 2);
        dueOf(x, 9, SON, CHAPEL, 1, 0, 3);
        due("an 11th", tell(x, "woman"), -1);
        due("no more people", tell(x, "knot pub 3"), 1);
        due("a WORD that isn't one", tell(x, "slack 1;women"), -9);
        due("status(-1)", x.status(-1), 0);
    }

    // ---- sheets

    private static void sheet() {
        EndlessTug x = new EndlessTug();
        due("sheet(0, 8, 0)", x.sheet(0, 8, 0), 0);
        due("book(0), empty", x.book(0), 0);
        due("sheet(3, 16, 40)", x.sheet(3, 16, 40), 40);
        due("write(3, 39, 5)", x.write(3, 39, 5), 0);
        due("sheet(3, 64, 40)", x.sheet(3, 64, 40), 40);
        due("write(3, 39, 5)", x.write(3, 39, 5), 0);
        due("sheet(3, 0, 40)", x.sheet(3, 0, 40), 0);
        due("write(3, 39, 5)", x.write(3, 39, 5), MISSING);
        due("sheet(-1, 8, 1)", x.sheet(-1, 8, 1), BEYOND);
        due("sheet(4, 8, 1)", x.sheet(4, 8, 1), BEYOND);
        due("sheet(0, 32, 1)", x.sheet(0, 32, 1), BEYOND);
        due("sheet(0, -8, 1)", x.sheet(0, -8, 1), BEYOND);
        due("sheet(0, 32, -1)", x.sheet(0, 32, -1), BEYOND);
        due("sheet(4, 8, -1)", x.sheet(4, 8, -1), BEYOND);
        due("sheet(0, 8, -1)", x.sheet(0, 8, -1), SIZE);
        due("sheet(0, 0, -1)", x.sheet(0, 0, -1), SIZE);
        due("sheet(0, 8, 41)", x.sheet(0, 8, 41), BEYOND);
        due("sheet(0, 0, 41)", x.sheet(0, 0, 41), BEYOND);
        due("book(0), still empty", x.book(0), 0);
    }

    private static void write() {
        EndlessTug x = new EndlessTug();
        due("write(-1, 0, 1)", x.write(-1, 0, 1), BEYOND);
        due("write(4, 0, 1)", x.write(4, 0, 1), BEYOND);
        due("write(0, -1, 1)", x.write(0, -1, 1), MISSING);
        long[] values = {0, 1, 127, 128, 255, 256, -1, -128, -129, 32767, 32768, 65535, 65536, Long.MAX_VALUE, Long.MIN_VALUE};
        int[] bits = {8, 16, 64};
        for (int b : bits) {
            x.sheet(1, b, 3);
            long was = 0;
            for (long v : values) {
                due("write(1, 2, " + v + ") of " + b, x.write(1, 2, v), was);
                was = v << 64 - b >> 64 - b;
            }
            due("write(1, 1, 0) of " + b, x.write(1, 1, 0), 0);
        }
        due("write(1, 3, 0)", x.write(1, 3, 0), BEYOND);
        due("write(1, -1, 0)", x.write(1, -1, 0), BEYOND);
    }

    private static EndlessTug withRow(int bits, int n) {
        EndlessTug x = new EndlessTug();
        x.sheet(0, bits, n);
        for (int i = 0; i < n; i++) {
            x.write(0, i, i + 1);
        }
        return x;
    }

    private static void dueRow(String when, EndlessTug x, int s, int... row) {
        for (int i = 0; i < row.length; i++) {
            due(when + ", number " + i, x.write(s, i, row[i]), row[i]);
        }
    }

    private static void copy() {
        EndlessTug x = withRow(8, 5);
        due("copy forth over itself", x.copy(0, 0, 0, 1, 4), 4);
        dueRow("forth", x, 0, 1, 1, 2, 3, 4);
        x = withRow(64, 5);
        due("copy back over itself", x.copy(0, 1, 0, 0, 4), 4);
        dueRow("back", x, 0, 2, 3, 4, 5, 5);
        x = withRow(16, 5);
        due("copy to none", x.copy(0, 0, 1, 0, 1), MISSING);
        due("copy from none", x.copy(1, 0, 0, 0, 1), MISSING);
        due("copy to none, n below 0", x.copy(0, 0, 1, 0, -1), MISSING);
        x.sheet(1, 8, 3);
        due("copy to other bits", x.copy(0, 0, 1, 0, 9), KIND);
        x.sheet(1, 16, 3);
        due("copy", x.copy(0, 3, 1, 1, 2), 2);
        dueRow("to another", x, 1, 0, 4, 5);
        due("copy all", x.copy(1, 0, 0, 0, 3), 3);
        dueRow("all", x, 0, 0, 4, 5, 4, 5);
        due("copy none", x.copy(0, 5, 1, 3, 0), 0);
        due("copy none from too far", x.copy(0, 6, 1, 3, 0), BEYOND);
        due("copy none to too far", x.copy(0, 5, 1, 4, 0), BEYOND);
        due("copy too many of it", x.copy(1, 0, 0, 0, 4), BEYOND);
        due("copy too many to it", x.copy(0, 0, 1, 0, 4), BEYOND);
        due("copy too far from", x.copy(0, 4, 1, 0, 2), BEYOND);
        due("copy too far to", x.copy(0, 0, 1, 2, 2), BEYOND);
        due("copy from below 0", x.copy(0, -1, 1, 0, 1), BEYOND);
        due("copy to below 0", x.copy(0, 0, 1, -1, 1), BEYOND);
        due("copy n below 0", x.copy(0, 0, 1, 0, -1), BEYOND);
        due("copy very many", x.copy(0, 1, 1, 1, Integer.MAX_VALUE), BEYOND);
        due("copy from very far", x.copy(0, Integer.MAX_VALUE, 1, 0, 1), BEYOND);
        due("copy to very far", x.copy(0, 0, 1, Integer.MAX_VALUE, 1), BEYOND);
        due("copy very few", x.copy(0, 0, 1, 0, Integer.MIN_VALUE), BEYOND);
        due("copy(4, ..)", x.copy(4, 0, 1, 0, 1), BEYOND);
        due("copy(.., 4, ..)", x.copy(0, 0, 4, 0, 1), BEYOND);
        due("copy(-1, ..)", x.copy(-1, 0, 2, 0, 1), BEYOND);
        due("copy(.., -1, ..)", x.copy(2, 0, -1, 0, 1), BEYOND);
        dueRow("still", x, 1, 0, 4, 5);
    }

    private static void lays() {
        EndlessTug x = new EndlessTug();
        for (int i = 0; i < 5; i++) {
            x.person(MAN, PUB);
        }
        due("lays(4)", x.lays(4), BEYOND);
        due("lays(-1)", x.lays(-1), BEYOND);
        due("lays(0)", x.lays(0), MISSING);
        x.sheet(0, 64, 40);
        due("lays(0), all 0", x.lays(0), 0);
        long[] row = {1, 20, 21, 0, (1L << 32) + 5, 7};
        for (int i = 0; i < row.length; i++) {
            x.write(0, i, row[i]);
        }
        due("lays(0)", x.lays(0), 2);
        int[] strong = {1, 20, 8, 8, 8};
        for (int i = 0; i < 5; i++) {
            due("of(" + i + ", 4)", x.of(i, 4), strong[i]);
        }
        x.person(MAN, PUB);
        due("lays(0), for one more", x.lays(0), 3);
        due("of(5, 4)", x.of(5, 4), 7);
        x.sheet(1, 8, 2);
        x.write(1, 1, 256 + 9);
        x.write(1, 0, -5);
        due("lays(1)", x.lays(1), 1);
        due("of(1, 4)", x.of(1, 4), 9);
    }

    private static void book() {
        EndlessTug x = lonelyMan();
        due("book(4)", x.book(4), BEYOND);
        due("book(-1)", x.book(-1), BEYOND);
        due("book(0)", x.book(0), MISSING);
        x.sheet(0, 64, 6);
        due("book(0)", x.book(0), 6);
        dueRow("64 bits", x, 0, 0, -8, -16, -24, -31, -38);
        x.knot(-120);
        x.sheet(1, 8, 3);
        due("book(1)", x.book(1), 3);
        dueRow("8 bits", x, 1, -120, -128, 120);
        due("now(4)", x.now(4), -120);
        due("now(0)", x.now(0), 0);
        x.sheet(2, 16, 40);
        due("book(2)", x.book(2), 40);
        due("write(2, 39, 0)", x.write(2, 39, 0), x.on(39, 0));
    }

    private static void read() {
        EndlessTug x = lonelyMan();
        due("read(4, 0)", x.read(4, 0), BEYOND);
        due("read(-1, 0)", x.read(-1, 0), BEYOND);
        due("read(0, 9)", x.read(0, 9), MISSING);
        x.sheet(0, 16, 0);
        due("read(0, 1)", x.read(0, 1), BEYOND);
        due("read(0, -1)", x.read(0, -1), BEYOND);
        due("read(0, 0), no numbers", x.read(0, 0), 120);
        x.sheet(0, 16, 1);
        due("read(0, 0), KNOT as it is", x.read(0, 0), 120);
        x.write(0, 0, 1);
        due("read(0, 0), another KNOT", x.read(0, 0), 0);
        x.sheet(0, 16, 2);
        x.book(0);
        due("read(0, 0), a day", x.read(0, 0), 6);
        x.write(0, 1, -1);
        due("read(0, 0), of 1", x.read(0, 0), 4);
        x.write(0, 1, -22);
        due("read(0, 0), of 22", x.read(0, 0), 2);
        x.write(0, 1, -23);
        due("read(0, 0), of 23", x.read(0, 0), 0);
        dueOf(x, 0, MAN, PUB, 1, 0, 8);
        x.person(MAN, CHAPEL);
        x.book(0);
        due("read(0, 1), one that is off", x.read(0, 1), 120);
        x.sheet(1, 8, 1);
        x.knot(200);
        x.book(1);
        due("read(1, 0), a KNOT of more bits", x.read(1, 0), 0);
    }

    // ---- images

    private static void image() {
        EndlessTug x = new EndlessTug();
        puller(x, SON, CHAPEL, 5);
        x.knot(7);
        feedText(x, "sl");
        x.sheet(0, 8, 1);
        due("image()", x.image(), 1);
        feedText(x, "ack 5");
        x.write(0, 0, 9);
        x.days(9);
        x.slack(9);
        x.harvest(9);
        x.turn(0, STRANGER);
        x.set(0, 1, PUB);
        x.set(0, 2, 0);
        x.set(0, 4, 19);
        x.person(MAN, PUB);
        due("undo()", x.undo(), 1);
        dueOf(x, 0, SON, CHAPEL, 1, 0, 5);
        due("now(0)", x.now(0), 0);
        due("now(4)", x.now(4), 7);
        due("now(5)", x.now(5), 3);
        due("harvest(32)", x.harvest(32), 32);
        due("a sheet is not kept", x.write(0, 0, 9), 9);
        due("THE TAPE is not kept", x.count(1), 7);
        due("image()", x.image(), 1);
    }

    private static void undo() {
        EndlessTug x = new EndlessTug();
        due("undo()", x.undo(), NONE);
        x.image();
        x.person(MAN, PUB);
        x.image();
        x.person(MAN, PUB);
        due("undo()", x.undo(), 1);
        x.set(0, 3, 50);
        x.person(MAN, PUB);
        due("undo(), once more", x.undo(), 1);
        due("of(0, 3)", x.of(0, 3), 0);
        due("status(-1)", x.status(-1), 1);
    }

    private static void tear() {
        EndlessTug x = new EndlessTug();
        due("tear()", x.tear(), 0);
        x.image();
        x.image();
        due("tear()", x.tear(), 1);
        due("tear()", x.tear(), 0);
        due("undo()", x.undo(), NONE);
    }

    private static void count() {
        EndlessTug x = new EndlessTug();
        int[] tired = {5, 99, 12};
        for (int i = 0; i < 3; i++) {
            x.person(MAN, i == 1 ? CHAPEL : PUB);
            x.set(i, 3, tired[i]);
        }
        x.feed(0, 3);
        x.feed(0, 1);
        due("count(0)", x.count(0), 3);
        due("count(1)", x.count(1), 4);
        due("count(2)", x.count(2), 2);
        due("count(3)", x.count(3), 116);
        EndlessTug y = tenMen();
        y.days(1);
        due("count(0) of ten", y.count(0), 10);
        due("count(2) of ten", y.count(2), 5);
        due("count(3) of ten", y.count(3), 40);
        due("count(4)", x.count(4), BEYOND);
        due("count(-1)", x.count(-1), BEYOND);
    }

    private static void status() {
        EndlessTug x = new EndlessTug();
        x.image();
        x.slack(100);
        x.write(9, 0, 0);
        due("status(-1)", x.status(-1), 2);
        for (int i = 0; i < 10; i++) {
            x.person(MAN, PUB);
        }
        x.person(MAN, PUB);
        x.as(0, SON);
        x.as(0, SON);
        x.wins(CHAPEL, 1);
        x.relieve(0, 1);
        x.write(0, 0, 0);
        x.write(0, 0, 0);
        x.write(0, 0, 0);
        x.sheet(0, 0, -1);
        x.undo();
        int[] due = {2, 1, 2, 1, 1, 3, 1};
        for (int which = 0; which < 7; which++) {
            due("status(" + which + ")", x.status(which), due[which]);
        }
        due("status(-1)", x.status(-1), 11);
        due("status(7)", x.status(7), BEYOND);
        due("status(-2)", x.status(-2), BEYOND);
        due("status(0), those two counted", x.status(0), 4);
        due("status(-1), those two counted", x.status(-1), 13);
    }
}
