import java.nio.file.Files;
import java.nio.file.Path;
import java.util.HashSet;
import java.util.Set;
import java.util.regex.Matcher;
import java.util.regex.Pattern;

/**
 * A test of its own for each sentence of the document that names a boundary case. Each names its sentence, which must
 * stand in that part of the document, and each finding that a promise names must have been told in its tests.
 */
public final class BoundaryTest {
    private static final Pattern NAMED_FINDING =
        Pattern.compile("(?<=[.] )(BEYOND|FULL|KIND|NONE|STATE|MISSING|SIZE)(?=[.:]| [(])");
    private static final String[] KINDS = {"man", "son", "drinker", "woman", "preacher", "stranger"};

    private static String document;
    private static String part = "";
    private static String partName = "";
    private static int sentences;
    private static final Set<String> TOLD = new HashSet<>();
    private static final Set<String> PARTS = new HashSet<>();

    public static void main(String[] args) throws Exception {
        document = Files.readString(Path.of("../shared/DOC.md"));
        begin("What it is"); calls();
        begin("Terms"); findings(); orderOfFindings(); quotientsAndSets();
        daysAndWeeks(); knotAndSlack(); people(); pulls(); tires(); letsGo(); lettingGoBehindADay();
        aDayMovesTheKnot(); aDayTiresAndRests(); aDayCallsOut();
        tokens(); items(); faults(); onAndOn(); sheetsInAll();
        newObject(); slack(); harvest(); knot(); now();
        person(); of(); set(); turn(); as(); relieve();
        days(); on(); then(); wins(); off(); turns();
        spell(); kind(); week(); strong(); bears(); fewest(); traitor();
        feed(); wipe(); green();
        sheet(); write(); copy(); lays(); book(); read();
        image(); undo(); tear(); count(); status();
        end();
        System.out.println(sentences + " sentences of the document");
        Tug.end();
    }

    // ---- what part of the document is tested

    private static void begin(String heading) {
        end();
        Matcher found = Pattern.compile("(?ms)^## " + heading + "\\b(.*?)(?=^## |\\z)").matcher(document);
        part = found.find() ? found.group(1) : "";
        partName = heading;
        PARTS.add(heading);
        TOLD.clear();
    }

    /** The sentence that is tested next. */
    private static void says(String words) {
        sentences++;
        Tug.about = partName + ", \"" + words + "\"";
        if (!part.contains(words)) {
            Tug.fail("the document doesn't say so there");
        }
    }

    private static void end() {
        Matcher named = NAMED_FINDING.matcher(part);
        Tug.about = partName;
        while (partName.startsWith("Promise") && named.find()) {
            if (!TOLD.contains(named.group(1))) {
                Tug.fail(named.group(1) + " has no test");
            }
        }
    }

    private static Tug due(Tug tug, String run) {
        Matcher told = Pattern.compile("=([A-Z]+)").matcher(run);
        while (told.find()) {
            TOLD.add(told.group(1));
        }
        return tug.due(run);
    }

    /** What one number of a call may be: the ends are taken, what lies beyond them is refused. */
    private static void range(Tug tug, String before, int least, int most, String behind) {
        for (int v : new int[] {least - 1, most + 1, Integer.MIN_VALUE, Integer.MAX_VALUE}) {
            due(tug, before + v + behind + "=BEYOND");
        }
        for (int v : new int[] {least, most}) {
            long got = tug.ask(before + v + behind);
            Tug.due(before + v + behind + " is BEYOND: ", got == Tug.number("BEYOND") ? 1 : 0, 0);
        }
    }

    private static Tug nobody() {
        return new Tug();
    }

    private static Tug told(String text) {
        return Tug.told(text);
    }

    private static String times(int n, String step) {
        return (step + " ").repeat(n);
    }

    // ---- what it is, and terms

    private static void calls() {
        says("An object is used for at most 512 calls after it has been made");
        due(nobody(), times(511, "slack(100)=BEYOND") + "status(-1)=511");
        due(nobody(), times(511, "days(100)=0") + "now(0)=51100");
    }

    private static void findings() {
        says("FINDINGS are answers below -1000000000: -1000000001 BEYOND, -1000000002 FULL, -1000000003 KIND, "
            + "-1000000004 NONE, -1000000005 STATE, -1000000006 MISSING, -1000000007 SIZE");
        nobody().due("slack(100)=-1000000001 undo()=-1000000004 lays(0)=-1000000006 sheet(0,8,-1)=-1000000007");
        told("man pub;man pub").due("as(0,1)=-1000000003 relieve(0,1)=-1000000005");
        nobody().due(times(10, "person(0,0)") + "person(0,0)=-1000000002");
        says("(in longs, too)");
        EndlessTug x = new EndlessTug();
        Tug.due("write(4, 0, 0)", x.write(4, 0, 0L), -1000000001L);
        Tug.due("write(0, 0, 0)", x.write(0, 0, 0L), -1000000006L);
        Tug.due("a long's lowest bits don't count", x.write(4, 0, -1L), -1000000001L);
    }

    private static void orderOfFindings() {
        says("Each act tells its findings in the order in which they are asked");
        due(nobody(), times(10, "person(0,0)") + "person(6,0)=BEYOND person(0,2)=BEYOND person(0,0)=FULL");
        due(told("man pub;son pub"), "as(0,6)=BEYOND as(2,1)=BEYOND as(0,1)=KIND");
        due(told("man pub;man pub"), "relieve(0,2)=BEYOND relieve(2,0)=BEYOND relieve(-1,-1)=BEYOND relieve(0,1)=STATE");
        due(nobody(), "wins(2,9999)=BEYOND wins(0,10000)=BEYOND wins(0,9999)=NONE");
        due(told("man pub"), "spell(0,61)=BEYOND spell(0,0)=BEYOND spell(1,1)=BEYOND spell(0,1)=STATE");
        due(told("man pub on"), "spell(0,61)=BEYOND spell(0,0)=BEYOND spell(0,1)=NONE");
        due(told("man pub"), "strong(0,61,9999)=BEYOND strong(1,1,9999)=BEYOND strong(0,1,10000)=BEYOND strong(0,1,9999)=NONE");
        due(told("man pub;man pub on"), "bears(0,61)=BEYOND bears(0,0)=BEYOND bears(2,1)=BEYOND bears(0,1)=NONE");
        due(nobody(), "fewest(2)=BEYOND fewest(-1)=BEYOND fewest(1)=NONE");
        due(nobody(), "traitor(0)=BEYOND traitor(61)=BEYOND traitor(1)=NONE");
        due(nobody(), times(30, "feed(0,4)") + "feed(0,0)=BEYOND feed(0,5)=BEYOND feed(0,1)=FULL");
        due(nobody(), "sheet(4,8,-1)=BEYOND sheet(-1,0,-1)=BEYOND sheet(0,9,-1)=BEYOND sheet(0,-1,-1)=BEYOND"
            + " sheet(0,8,-1)=SIZE sheet(4,8,41)=BEYOND sheet(0,9,41)=BEYOND");
        due(nobody(), "write(4,-1,0)=BEYOND write(0,-1,0)=MISSING write(0,40,0)=MISSING");
        due(nobody(), "copy(4,0,0,0,1)=BEYOND copy(0,0,-1,0,1)=BEYOND copy(0,-1,0,0,1)=MISSING");
        due(nobody(), "sheet(0,8,2) copy(0,-1,1,0,1)=MISSING copy(1,0,0,-1,1)=MISSING copy(0,0,1,0,-1)=MISSING");
        due(nobody(), "sheet(0,8,2) sheet(1,16,2) copy(0,-1,1,0,1)=KIND copy(0,0,1,3,1)=KIND copy(0,0,1,0,-1)=KIND");
        due(nobody(), "read(4,0)=BEYOND read(0,0)=MISSING read(0,-1)=MISSING sheet(0,8,0) read(0,0)=BEYOND");
        due(nobody(), "lays(4)=BEYOND lays(3)=MISSING book(-1)=BEYOND book(0)=MISSING");
    }

    private static void quotientsAndSets() {
        says("Quotients are cut.");
        due(told("man pub"), "set(0,3,9) of(0,5)=8 set(0,3,10) of(0,5)=7 set(0,3,19) of(0,5)=7 set(0,3,20) of(0,5)=6");
        due(nobody(), "days(6) now(1)=0 days(1) now(1)=1 days(6) now(1)=1 days(1) now(1)=2");
        says("Sets are told by bits.");
        due(nobody(), times(10, "person(0,0)") + "now(7)=0 set(9,2,1) now(7)=512 set(0,2,1) now(7)=513");
        due(Tug.onDay(49), "harvest(128) now(2)=1 harvest(127) now(2)=0");
    }

    // ---- section 1

    private static void daysAndWeeks() {
        says("DAY: 0 at first (99999 at most)");
        due(nobody(), "now(0)=0");
        due(nobody().beyondItsCalls(), times(999, "days(100)=0") + "now(0)=99900 days(100)=STATE days(99)=0 now(0)=99999"
            + " days(1)=STATE now(0)=99999 now(1)=5 now(2)=1 now(3)=0");
        says("WEEKS: 8 of a year, that of a DAY being the rest of (DAY by 7) by 8");
        due(nobody(), "now(1)=0 days(6) now(1)=0 days(1) now(1)=1 days(48) now(0)=55 now(1)=7 days(1) now(1)=0"
            + " days(55) now(1)=7 days(1) now(0)=112 now(1)=0");
        says("HARVEST: a set of WEEKS (that of 5 at first)");
        due(nobody(), "days(34) now(2)=0 days(1) now(2)=1 days(6) now(2)=1 days(1) now(0)=42 now(2)=0 days(48) now(2)=0"
            + " days(1) now(0)=91 now(2)=1 days(6) now(2)=1 days(1) now(2)=0 harvest(0)=32");
        says("SUNDAY: a DAY whose rest by 7 is 6");
        due(nobody(), "now(3)=0 days(5) now(3)=0 days(1) now(3)=1 days(1) now(3)=0 days(5) now(3)=0 days(1) now(3)=1"
            + " days(42) now(0)=55 now(3)=1 days(1) now(3)=0");
    }

    private static void knotAndSlack() {
        says("KNOT: where the handkerchief is, in tenths of inches (-9999 to 9999; 0 at first");
        due(nobody(), "now(4)=0 knot(9999)=0 knot(10000)=BEYOND now(4)=9999 knot(-9999)=9999 knot(-10000)=BEYOND now(4)=-9999");
        says("below 0: to the pub, side 0; above: to the chapel, side 1)");
        due(nobody(), "knot(-1) now(6)=0 knot(-9999) now(6)=0 knot(1) now(6)=1 knot(9999) now(6)=1");
        says("AHEAD: SIDE 0, if KNOT is below 0; SIDE 1, if it is above 0.");
        due(nobody(), "now(6)=-1 knot(-1) now(6)=0 knot(1) now(6)=1 knot(0) now(6)=-1");
        says("SLACK (0 to 99; 3 at first)");
        due(nobody(), "now(5)=3 slack(0) slack(-1)=BEYOND now(5)=0 slack(99) slack(100)=BEYOND now(5)=99");
    }

    private static void people() {
        says("PEOPLE 0, 1, .. (at most 10)");
        Tug ten = nobody();
        for (int i = 0; i < 10; i++) {
            due(ten, "of(" + i + ",0)=BEYOND person(0,0)=" + i + " of(" + i + ",0)=0");
        }
        due(ten, "person(0,0)=FULL of(10,0)=BEYOND count(0)=10");
        says("0 MAN, 1 SON under MAN, 2 DRINKER under MAN, 3 WOMAN under MAN, 4 PREACHER under SON, 5 STRANGER under DRINKER");
        String[] as = {"0", "01", "02", "03", "014", "025"};
        for (int kind = 0; kind < 6; kind++) {
            Tug one = told(KINDS[kind] + " pub");
            for (int other = 0; other < 6; other++) {
                due(one, "as(0," + other + ")=" + (as[kind].indexOf('0' + other) >= 0 ? "8" : "KIND"));
            }
        }
        says("each of a SIDE (0, 1)");
        due(nobody(), "person(0,0) of(0,1)=0 person(0,1) of(1,1)=1 person(0,2)=BEYOND person(0,-1)=BEYOND");
        says("ON the rope (1) or off (0; at first)");
        due(told("man pub"), "of(0,2)=0 set(0,2,1)=0 set(0,2,2)=BEYOND set(0,2,0)=1 set(0,2,-1)=BEYOND of(0,2)=0");
        says("TIRED (0 to 99; 0 at first)");
        due(told("man pub"), "of(0,3)=0 set(0,3,99)=0 set(0,3,100)=BEYOND set(0,3,0)=99 set(0,3,-1)=BEYOND of(0,3)=0");
        says("STRONG (1 to 20; 8 at first)");
        due(told("man pub"), "of(0,4)=8 set(0,4,20)=8 set(0,4,21)=BEYOND set(0,4,1)=20 set(0,4,0)=BEYOND of(0,4)=1");
    }

    /** One of a KIND, alone, on a DAY, with TIRED and STRONG. */
    private static Tug alone(int kind, int side, int day, int tired, int strong) {
        return Tug.onDay(day).due("person(" + kind + "," + side + ") set(0,3," + tired + ") set(0,4," + strong + ")");
    }

    private static void pulls() {
        says("MAN: STRONG less t by 10 (0 at least).");
        due(told("man pub"), "set(0,4,9) set(0,3,89) of(0,5)=1 set(0,3,90) of(0,5)=0 set(0,3,99) of(0,5)=0"
            + " set(0,4,1) of(0,5)=0 set(0,3,10) of(0,5)=0 set(0,3,9) of(0,5)=1 set(0,4,20) of(0,5)=20 set(0,3,99) of(0,5)=11");
        says("SON: as MAN, and 2.");
        due(told("son pub"), "set(0,4,1) of(0,5)=3 set(0,3,10) of(0,5)=2 set(0,3,99) of(0,5)=2 set(0,4,20) of(0,5)=13");
        says("DRINKER: as MAN, but 1, on a SUNDAY.");
        for (int day = 5; day <= 7; day++) {
            String sunday = day == 6 ? "1" : "0";
            due(alone(2, 0, day, 99, 1), "of(0,5)=" + sunday);
            due(alone(2, 0, day, 0, 20), "of(0,5)=" + (day == 6 ? 1 : 20));
        }
        says("WOMAN: as MAN, and 4 in HARVEST.");
        for (int day : new int[] {34, 35, 41, 42, 90, 91, 97, 98}) {
            boolean harvest = day == 35 || day == 41 || day == 91 || day == 97;
            due(alone(3, 0, day, 0, 20), "of(0,5)=" + (harvest ? 24 : 20));
            due(alone(3, 0, day, 99, 1), "of(0,5)=" + (harvest ? 4 : 0));
        }
        says("PREACHER: as SON, twice that on a SUNDAY.");
        for (int day = 5; day <= 7; day++) {
            due(alone(4, 0, day, 0, 20), "of(0,5)=" + (day == 6 ? 44 : 22));
            due(alone(4, 0, day, 99, 1), "of(0,5)=" + (day == 6 ? 4 : 2));
        }
        says("STRANGER: 0, if its SIDE is ahead; else as DRINKER.");
        for (int day = 5; day <= 7; day++) {
            int otherwise = day == 6 ? 1 : 20;
            due(alone(5, 0, day, 0, 20), "of(0,5)=" + otherwise + " knot(-1) of(0,5)=0 knot(1) of(0,5)=" + otherwise);
            due(alone(5, 1, day, 0, 20), "of(0,5)=" + otherwise + " knot(1) of(0,5)=0 knot(-1) of(0,5)=" + otherwise);
        }
    }

    private static void tires() {
        String[] words = {"MAN: 4.", "SON: as MAN, less 1.", "DRINKER: as MAN, and 3 on a SUNDAY.", "WOMAN: 2.",
            "PREACHER: as SON, but 0 on a SUNDAY.", "STRANGER: as DRINKER, less 2."};
        int[] weekday = {4, 3, 4, 2, 3, 2};
        int[] sunday = {4, 3, 7, 2, 0, 5};
        for (int kind = 0; kind < 6; kind++) {
            says(words[kind]);
            due(alone(kind, 0, 5, 0, 8), "of(0,6)=" + weekday[kind] + " set(0,2,1) of(0,6)=" + weekday[kind]);
            due(alone(kind, 0, 6, 0, 8), "of(0,6)=" + sunday[kind] + " set(0,2,1) of(0,6)=" + sunday[kind] + " days(1) of(0,3)=" + sunday[kind]);
            due(alone(kind, 0, 7, 0, 8), "of(0,6)=" + weekday[kind] + " set(0,2,1) days(1) of(0,3)=" + weekday[kind]);
            due(alone(kind, 0, 35, 0, 8), "of(0,6)=" + weekday[kind]);
        }
        says("(Off it: RESTS 10, all KINDS.)");
        for (int kind = 0; kind < 6; kind++) {
            for (int day : new int[] {0, 6, 35}) {
                due(alone(kind, 0, day, 99, 8), "person(0,0) set(1,2,1) days(1) of(0,3)=89 of(0,2)=0");
            }
        }
    }

    private static void dueLetsGo(int kind, int day, int knot, int from) {
        for (int tired : new int[] {0, from - 1, from, from + 1, 89, 99}) {
            if (tired >= 0) {
                due(alone(kind, 1, day, tired, 8), "knot(" + knot + ") of(0,7)=" + (tired >= from ? 1 : 0));
            }
        }
    }

    private static void letsGo() {
        says("MAN: if t is 90 or more.");
        dueLetsGo(0, 0, 0, 90);
        dueLetsGo(0, 6, 0, 90);
        dueLetsGo(0, 35, 0, 90);
        says("SON: if t is 95 or more.");
        dueLetsGo(1, 0, 0, 95);
        dueLetsGo(1, 6, 0, 95);
        says("DRINKER: as MAN, or on a SUNDAY.");
        dueLetsGo(2, 5, 0, 90);
        dueLetsGo(2, 6, 0, 0);
        dueLetsGo(2, 7, 0, 90);
        says("WOMAN: as MAN, or if it isn't HARVEST and t is 30 or more.");
        dueLetsGo(3, 34, 0, 30);
        dueLetsGo(3, 35, 0, 90);
        dueLetsGo(3, 41, 0, 90);
        dueLetsGo(3, 42, 0, 30);
        says("PREACHER: as SON.");
        dueLetsGo(4, 5, 0, 95);
        dueLetsGo(4, 6, 0, 95);
        says("STRANGER: as DRINKER, or if its SIDE isn't ahead and t is 20 or more.");
        dueLetsGo(5, 5, 0, 20);
        dueLetsGo(5, 5, -1, 20);
        dueLetsGo(5, 5, 1, 90);
        dueLetsGo(5, 6, 1, 0);
        dueLetsGo(5, 7, 1, 90);
        due(told("stranger pub tired 20"), "of(0,7)=1 knot(1) of(0,7)=1 knot(-1) of(0,7)=0 set(0,3,89) of(0,7)=0 set(0,3,90) of(0,7)=1");
    }

    private static void lettingGoBehindADay() {
        says("LETS GO (behind a day ON)");
        due(told("man pub tired 85 on;man pub on"), "days(1) of(0,3)=89 now(7)=3");
        due(told("man pub tired 86 on;man pub on"), "days(1) of(0,3)=90 now(7)=2");
        due(told("son pub tired 91 on;man pub on"), "days(1) of(0,3)=94 now(7)=3");
        due(told("son pub tired 92 on;man pub on"), "days(1) of(0,3)=95 now(7)=2");
        due(told("woman pub tired 27 on;man pub on"), "days(1) of(0,3)=29 now(7)=3");
        due(told("woman pub tired 28 on;man pub on"), "days(1) of(0,3)=30 now(7)=2");
        due(told("woman pub tired 87 on;man pub on;harvest 0"), "days(1) of(0,3)=89 now(7)=3");
        due(told("woman pub tired 88 on;man pub on;harvest 0"), "days(1) of(0,3)=90 now(7)=2");
        due(told("man pub tired 99;man pub on"), "of(0,7)=1 days(1) of(0,3)=89 now(7)=2");
        says("those that LET GO (by KNOT as it is then) are off");
        String chapel = "slack 0;knot chapel 2;stranger chapel tired 18 on;man chapel on;man pub strong ";
        due(told(chapel + "9 on"), "days(1)=1 of(0,3)=20 now(7)=7");
        due(told(chapel + "10 on"), "days(1)=0 of(0,3)=20 now(7)=6");
        String pub = "slack 0;knot pub 2;stranger pub tired 18 on;man pub on;man chapel strong ";
        due(told(pub + "9 on"), "days(1)=-1 of(0,3)=20 now(7)=7");
        due(told(pub + "10 on"), "days(1)=0 of(0,3)=20 now(7)=6");
        due(told("slack 0;stranger chapel tired 18 on;man chapel on"), "days(1)=15 now(7)=3");
    }

    private static void aDayMovesTheKnot() {
        says("what each SIDE PULLS is what those ON it PULL, together");
        due(nobody(), "now(8)=0 now(9)=0 days(1)=0");
        due(told("man pub on;man pub strong 20;son pub strong 1 on;man chapel on"), "now(8)=11 now(9)=8");
        due(Tug.onDay(6), times(10, "person(4,1)") + setAll(4, 20) + setAll(2, 1) + "now(9)=440 now(8)=0 slack(99) days(1)=341");
        says("By how much one SIDE PULLS more than the other one, less SLACK (0 at least), KNOT goes towards it");
        int[] goes = {0, 0, 0, 0, 1, 2};
        for (int more = 0; more < goes.length; more++) {
            due(told("man pub on;man chapel strong " + (8 + more) + " on"), "days(1)=" + goes[more]);
            due(told("man chapel on;man pub strong " + (8 + more) + " on"), "days(1)=" + -goes[more]);
        }
        due(told("slack 0;man pub on;man chapel on"), "days(1)=0");
        due(told("slack 0;man pub on;man chapel strong 9 on"), "days(1)=1");
        due(told("slack 0;man pub strong 9 on;man chapel on"), "days(1)=-1");
        due(nobody(), times(10, "person(0,0)") + setAll(4, 10) + setAll(2, 1) + "slack(99) set(9,4,9) days(1)=0");
        due(nobody(), times(10, "person(0,0)") + setAll(4, 10) + setAll(2, 1) + "slack(99) days(1)=-1");
        says("(-9999 to 9999 held)");
        String two = "slack 0;son chapel strong 1 tired 99 on;knot chapel ";
        due(told(two + "9997"), "days(1)=9999 days(1)=9999 days(100)=9999");
        due(told(two + "9998"), "days(1)=9999 now(4)=9999");
        due(told(two + "9999"), "days(1)=9999 on(400,0)=9999");
        two = "slack 0;son pub strong 1 tired 99 on;knot pub ";
        due(told(two + "9997"), "days(1)=-9999 days(1)=-9999 days(100)=-9999");
        due(told(two + "9998"), "days(1)=-9999 now(4)=-9999");
        due(told(two + "9999"), "days(1)=-9999 on(400,0)=-9999");
    }

    private static String setAll(int what, int v) {
        StringBuilder run = new StringBuilder();
        for (int i = 0; i < 10; i++) {
            run.append("set(").append(i).append(',').append(what).append(',').append(v).append(") ");
        }
        return run.toString();
    }

    private static void aDayTiresAndRests() {
        says("those that were ON: TIRED is what they TIRE more (99 at most)");
        due(told("man pub tired 94 on"), "days(1) of(0,3)=98");
        due(told("man pub tired 95 on"), "days(1) of(0,3)=99");
        due(told("man pub tired 96 on"), "days(1) of(0,3)=99");
        due(told("man pub tired 99 on"), "days(1) of(0,3)=99 days(100) of(0,3)=99");
        says("those that were off: TIRED is 10 less (0 at least)");
        int[][] rests = {{99, 89}, {11, 1}, {10, 0}, {9, 0}, {1, 0}, {0, 0}};
        for (int[] rest : rests) {
            due(told("man pub on;man pub tired " + rest[0]), "days(1) of(1,3)=" + rest[1]);
        }
        says("DAY is 1 more.");
        due(nobody(), "days(1) now(0)=1 days(1) now(0)=2 days(100) now(0)=102");
        due(told("man pub on"), "days(1) now(0)=1");
    }

    private static void aDayCallsOut() {
        says("Then each SIDE that has nobody ON: the least TIRED one of it");
        due(nobody(), "days(1) now(7)=0");
        due(told("man pub"), "days(1)=0 now(7)=1 of(0,3)=0");
        due(told("man chapel"), "days(1)=0 now(7)=1 days(1)=5");
        due(told("man pub;man chapel"), "days(1) now(7)=3");
        due(told("man pub on;man pub;man chapel on;man chapel"), "days(1) now(7)=5");
        due(told("man pub tired 50 on;man pub;man chapel tired 50 on;man chapel"), "days(1) now(7)=5");
        due(told("man pub tired 21;man pub tired 20"), "days(1) now(7)=2");
        due(told("man pub tired 20;man pub tired 21"), "days(1) now(7)=1");
        due(told("man chapel tired 0;man pub tired 50;man pub tired 40"), "days(1) now(7)=5");
        due(told("man pub on;man pub;man chapel tired 99;man chapel tired 98"), "days(1) now(7)=9");
        says("(of several the least number) comes ON");
        due(told("man pub tired 20;man pub tired 20"), "days(1) now(7)=1");
        due(told("man pub tired 9;man pub tired 0"), "days(1) now(7)=1");
        due(told("man chapel;man pub tired 10;man pub tired 5;man pub"), "days(1) now(7)=3");
        // One that lets go may be the one that comes: a drinker on a Sunday, TIRED 7 then, against 8, 7 and 6.
        int[][] again = {{18, 1}, {17, 1}, {16, 2}};
        for (int[] other : again) {
            due(alone(2, 0, 6, 0, 8), "set(0,2,1) person(0,0) set(1,3," + other[0] + ") days(1) of(0,3)=7 now(7)=" + other[1]);
        }
        due(told("man pub tired 99 on"), "days(1) now(7)=1");
    }

    // ---- THE TEXT

    private static void dueText(String text, int answer) {
        Tug tug = nobody();
        Tug.due("green() of \"" + text + "\"", tug.tell(text), answer);
        tug.due("count(1)=0 status(-1)=0");
        if (answer < 0) {
            tug.due("count(0)=0 now(4)=0 now(5)=3 harvest(0)=32");
        }
    }

    private static void dueFault(String text, int place) {
        dueText(text, -1 - place);
    }

    private static void tokens() {
        says("THE TAPE (bytes, at most 120)");
        due(nobody(), times(30, "feed(0,4)") + "count(1)=120 feed(0,1)=FULL count(1)=120");
        dueText("slack 1;".repeat(14) + "slack 10", 15);
        says("TOKENS, each as long as can be");
        dueText("man pub strong1tired99on", 1);
        dueText("slack1;slack2", 2);
        dueFault("manpub", 0);
        dueFault("man pubon", 4);
        dueFault("slack 1 0", 8);
        dueFault("man pub strong 200", 15);
        says("WORDS (letters a to z)");
        for (char sign : new char[] {'`', '{', 'A', 'M', 'Z', '@', '['}) {
            dueFault(sign + "an pub", 0);
            dueFault("man" + sign + " pub", 3);
        }
        dueFault("Man pub", 0);
        dueFault("mana pub", 0);
        dueFault("manz pub", 0);
        dueFault("man pUb", 4);
        says("NUMBERS (digits, 9999 at most)");
        dueText("knot pub 9999", 1);
        dueText("knot pub 00000000000000000000000000009999", 1);
        for (String number : new String[] {"10000", "99999", "2147483648", "4294967296", "4294967301", "18446744073709551621"}) {
            dueFault("knot pub " + number, 9);
            dueFault("slack " + number, 6);
        }
        for (char sign : new char[] {'/', ':', '-', '+', '.'}) {
            dueFault("slack " + sign + "1", 6);
            dueFault("slack 1" + sign, 7);
        }
        says("SIGN ;");
        dueText("slack 1;slack 2", 2);
        dueFault("slack 1,slack 2", 7);
        dueFault("slack 1:slack 2", 7);
        dueFault("slack 1<slack 2", 7);
        says("blanks may stand between");
        dueText("   slack    1   ;   slack    2   ", 2);
        dueText(" ".repeat(113) + "slack 7", 1);
        dueText("slack 7" + " ".repeat(113), 1);
        dueText("slack" + " ".repeat(114) + "7", 1);
        for (char sign : new char[] {0, 9, 10, 13, 31, 33, 160, 255}) {
            dueFault("slack" + sign + "7", 5);
        }
    }

    private static void dueNumber(String before, int least, int most) {
        dueText(before + least, 1);
        dueText(before + most, 1);
        dueFault(before + (most + 1), before.length());
        if (least > 0) {
            dueFault(before + (least - 1), before.length());
        }
    }

    private static void items() {
        says("TEXT: ITEM { ; ITEM }.");
        dueText("slack 1", 1);
        dueText("plain0;".repeat(16) + "plain0", 17);
        dueFault(";slack 1", 0);
        dueFault("slack 1;;slack 1", 8);
        dueFault("slack 1;", 8);
        dueFault("slack 1 slack 1", 8);
        says("the name of a KIND (man son drinker woman preacher stranger), pub or chapel");
        for (int kind = 0; kind < 6; kind++) {
            due(told(KINDS[kind] + " pub"), "count(0)=1 of(0,0)=" + kind + " of(0,1)=0 of(0,2)=0 of(0,3)=0 of(0,4)=8");
            due(told(KINDS[kind] + " chapel on"), "count(0)=1 of(0,0)=" + kind + " of(0,1)=1 of(0,2)=1 of(0,3)=0 of(0,4)=8");
            dueFault(KINDS[kind] + "s pub", 0);
            dueFault(KINDS[kind].substring(1) + " pub", 0);
            dueFault(KINDS[kind].substring(0, KINDS[kind].length() - 1) + " pub", 0);
        }
        says("perhaps strong and a NUMBER (1 to 20)");
        dueNumber("man pub strong ", 1, 20);
        due(told("man pub strong 1;man pub strong 20"), "of(0,4)=1 of(1,4)=20");
        says("perhaps tired and a NUMBER (0 to 99)");
        dueNumber("man pub tired ", 0, 99);
        due(told("man pub tired 0;man pub tired 99"), "of(0,3)=0 of(1,3)=99");
        says("perhaps on: one more");
        due(told("man pub"), "of(0,2)=0");
        due(told("man pub strong 9 tired 7 on"), "of(0,2)=1 of(0,3)=7 of(0,4)=9");
        dueFault("man pub on strong 5", 11);
        dueFault("man pub on on", 11);
        dueFault("man pub tired 5 strong 5", 16);
        dueFault("man pub tired 5 tired 5", 16);
        says("harvest or plain, a NUMBER (a WEEK): it is HARVEST, or not");
        dueNumber("harvest ", 0, 7);
        dueNumber("plain ", 0, 7);
        due(told("harvest 0;harvest 7"), "harvest(0)=161");
        due(told("harvest 5;plain 0;plain 7"), "harvest(255)=32 feed(0,1) wipe()=1");
        due(told("plain 5"), "harvest(0)=0");
        says("knot, pub or chapel, a NUMBER (0 to 9999)");
        dueNumber("knot pub ", 0, 9999);
        dueNumber("knot chapel ", 0, 9999);
        due(told("knot pub 9999"), "now(4)=-9999");
        due(told("knot chapel 9999"), "now(4)=9999");
        due(told("knot chapel 5;knot pub 0"), "now(4)=0");
        says("slack and a NUMBER (0 to 99)");
        dueNumber("slack ", 0, 99);
        due(told("slack 0"), "now(5)=0");
        due(told("slack 99"), "now(5)=99");
    }

    private static void faults() {
        says("FAULT: the place (from 0) of the first byte of the first TOKEN that can't stand there");
        dueFault("pub", 0);
        dueFault("   pub", 3);
        dueFault("man pub; slack 100; slack x", 15);
        dueFault("slack 1;".repeat(14) + "slack xx", 118);
        dueFault("a".repeat(120), 0);
        dueFault(" ".repeat(119) + "a", 119);
        says("(a NUMBER that may not be, another WORD, a byte that begins no TOKEN");
        dueFault("slack 100", 6);
        dueFault("7", 0);
        dueFault("man 7", 4);
        dueFault("man pub 7", 8);
        dueFault("slack pub", 6);
        dueFault("knot 7", 5);
        dueFault("harvest pub", 8);
        dueFault("man pub pub", 8);
        dueFault("man man", 4);
        // Each WORD with its first, a middle or its last letter another one.
        for (String text : new String[] {"man pub strong 5 tired 5 on", "son chapel", "drinker pub", "woman pub", "preacher pub",
            "stranger pub", "harvest 1", "plain 1", "knot pub 1", "slack 1"}) {
            dueText(text, 1);
            Matcher word = Pattern.compile("[a-z]+").matcher(text);
            while (word.find()) {
                for (int at : new int[] {word.start(), (word.start() + word.end()) / 2, word.end() - 1}) {
                    dueFault(text.substring(0, at) + "q" + text.substring(at + 1), word.start());
                }
            }
        }
        dueFault("man #", 4);
        dueFault("#", 0);
        dueFault("man pub;" + (char) 255, 8);
        says("the name of a KIND for an 11th: its own)");
        due(nobody().due(times(10, "person(0,0)")).feed("slack 7; man pub"), "green()=-10 now(5)=3 count(0)=10");
        due(nobody().due(times(10, "person(0,0)")).feed("son"), "green()=-1");
        due(nobody().due(times(10, "person(0,0)")).feed("stranger 7"), "green()=-1");
        due(nobody().due(times(9, "person(0,0)")).feed("man pub"), "green()=1 count(0)=10");
        due(nobody().due(times(9, "person(0,0)")).feed("man pub;man pub"), "green()=-9 count(0)=9");
        dueText("man pub;".repeat(9) + "man pub", 10);
        dueFault("man pub;".repeat(10) + "man pub", 80);
        says("or how many bytes there are if it ends too early.");
        for (String early : new String[] {"", " ", "man", "man ", "man pub;", "man pub; ", "man pub strong", "man pub tired  ",
            "harvest", "plain ", "knot", "knot pub", "knot chapel ", "slack", "slack 1;slack", "slack 1;".repeat(15), " ".repeat(120)}) {
            dueFault(early, early.length());
        }
    }

    // ---- sections 2 and 3

    private static void onAndOn() {
        says("ON AND ON: n DAYS go on with all as it is; nothing changes.");
        due(told("slack 0;man pub tired 86 on;man pub"), "on(0,0)=0 on(0,1)=1 on(1,0)=0 on(1,1)=2 on(2,0)=-8 on(400,1)"
            + " now(0)=0 now(4)=0 now(7)=1 of(0,3)=86 of(1,3)=0 now(5)=0 harvest(0)=32");
        says("TOWARDS SIDE 1 KNOT is KNOT; towards SIDE 0 it is 0 less KNOT.");
        due(nobody(), "knot(9999) wins(1,9999)=0 wins(0,1)=NONE knot(-9999) wins(0,9999)=0 wins(1,1)=NONE"
            + " knot(0) wins(0,1)=NONE wins(1,1)=NONE");
        due(told("man pub;man chapel"), "knot(9) strong(0,1,-9)=1 strong(0,1,-8)=NONE strong(1,1,9)=1 strong(1,1,10)=NONE");
    }

    private static void sheetsInAll() {
        says("SHEETS 0 to 3 are rows of at most 40 numbers of 8, 16 or 64 bits, or MISSING (at first).");
        for (int s = 0; s < 4; s++) {
            due(nobody(), "lays(" + s + ")=MISSING sheet(" + s + ",8,40)=40 lays(" + s + ")=0 sheet(" + s + ",8,41)=BEYOND");
        }
        due(nobody(), "lays(-1)=BEYOND lays(4)=BEYOND");
        for (int bits = -1; bits <= 129; bits++) {
            boolean may = bits == 0 || bits == 8 || bits == 16 || bits == 64;
            due(nobody(), "sheet(0," + bits + ",0)=" + (may ? "0" : "BEYOND"));
        }
    }

    // ---- the green

    private static void newObject() {
        begin("Promise 1");
        says("Nobody there; THE TAPE is empty, no image is kept.");
        due(nobody(), "count(0)=0 count(1)=0 count(2)=0 count(3)=0 now(7)=0 of(0,0)=BEYOND");
        due(nobody(), "wipe()=0");
        due(nobody(), "green()=-1");
        due(nobody(), "undo()=NONE");
        due(nobody(), "tear()=0");
    }

    private static void slack() {
        begin("Promise 2");
        says("SLACK becomes v: what it was. BEYOND.");
        range(nobody(), "slack(", 0, 99, ")");
        due(nobody(), "slack(99)=3 slack(0)=99 slack(-1)=BEYOND slack(100)=BEYOND slack(0)=0");
    }

    private static void harvest() {
        begin("Promise 3");
        says("HARVEST becomes a set of WEEKS (0 to 255): what it was. BEYOND.");
        range(nobody(), "harvest(", 0, 255, ")");
        due(nobody(), "harvest(255)=32 now(2)=1 harvest(0)=255 now(2)=0 harvest(-1)=BEYOND harvest(256)=BEYOND harvest(0)=0");
        for (int week = 0; week < 8; week++) {
            due(Tug.onDay(7 * week + 6), "harvest(" + (1 << week) + ") now(2)=1 harvest(" + (255 - (1 << week)) + ") now(2)=0");
        }
    }

    private static void knot() {
        begin("Promise 4");
        says("KNOT becomes v: what it was. BEYOND.");
        range(nobody(), "knot(", -9999, 9999, ")");
        due(nobody(), "knot(9999)=0 knot(-9999)=9999 knot(-10000)=BEYOND knot(10000)=BEYOND knot(0)=-9999");
    }

    private static void now() {
        begin("Promise 5");
        says("What 0 DAY, 1 its WEEK");
        range(nobody(), "now(", 0, 9, ")");
        due(Tug.onDay(55), "now(0)=55 now(1)=7 days(1) now(0)=56 now(1)=0");
        says("2 1 if it is HARVEST, else 0, 3 1 if it is a SUNDAY, else 0");
        due(Tug.onDay(41), "now(2)=1 now(3)=1 days(1) now(2)=0 now(3)=0");
        says("6 which SIDE is AHEAD (-1: none)");
        due(nobody(), "now(6)=-1 knot(-1) now(6)=0 knot(1) now(6)=1");
        says("7 who is ON, as a set, 8 what SIDE 0, 9 what SIDE 1 PULLS. BEYOND.");
        due(nobody(), "now(7)=0 now(8)=0 now(9)=0 now(10)=BEYOND now(-1)=BEYOND");
        due(nobody(), times(10, "person(1,0)") + setAll(2, 1) + "now(7)=1023 now(8)=100 now(9)=0" + " set(9,1,1) now(8)=90 now(9)=10");
    }

    // ---- people

    private static void person() {
        begin("Promise 6");
        says("One more, off: the number. BEYOND: kind, side. FULL.");
        range(nobody(), "person(", 0, 5, ",0)");
        range(nobody(), "person(5,", 0, 1, ")");
        due(nobody(), times(9, "person(0,0)") + "person(5,1)=9 of(9,2)=0 person(5,1)=FULL person(-1,1)=BEYOND person(0,-1)=BEYOND count(0)=10");
        // Where others were before an image came back, one more begins as any.
        due(nobody(), "image() person(3,1) set(0,2,1) set(0,3,50) set(0,4,20) undo()=0 person(1,0)=0"
            + " of(0,0)=1 of(0,1)=0 of(0,2)=0 of(0,3)=0 of(0,4)=8");
    }

    private static void of() {
        begin("Promise 7");
        says("Of one: what 0 KIND, 1 SIDE, 2 ON, 3 TIRED, 4 STRONG, 5 PULLS");
        range(told("man pub"), "of(", 0, 0, ",0)");
        range(told("man pub"), "of(0,", 0, 7, ")");
        due(nobody(), "of(0,0)=BEYOND");
        due(nobody(), times(10, "person(0,0)") + "of(9,4)=8 of(10,4)=BEYOND");
        says("6 TIRES (ON or not), 7 1 if it LETS GO, as all is, else 0. BEYOND.");
        due(told("man pub tired 89;man pub tired 90 on"), "of(0,6)=4 of(0,7)=0 of(1,6)=4 of(1,7)=1 set(0,3,90) of(0,7)=1 of(0,8)=BEYOND");
    }

    private static void set() {
        begin("Promise 8");
        says("SIDE (what 1), ON (2), TIRED (3), STRONG (4) of one becomes v: what it was. BEYOND.");
        range(told("man pub"), "set(", 0, 0, ",1,0)");
        range(told("man pub"), "set(0,", 1, 4, ",1)");
        int[][] values = {{1, 0, 1}, {2, 0, 1}, {3, 0, 99}, {4, 1, 20}};
        for (int[] value : values) {
            String call = "set(0," + value[0] + ",";
            range(told("man pub"), call, value[1], value[2], ")");
            due(told("man pub"), call + value[1] + ") " + call + value[2] + ")=" + value[1] + " of(0," + value[0] + ")=" + value[2]
                + " " + call + (value[2] + 1) + ")=BEYOND " + call + (value[1] - 1) + ")=BEYOND of(0," + value[0] + ")=" + value[2]);
        }
        due(nobody(), "set(0,1,1)=BEYOND");
        due(nobody(), times(10, "person(0,0)") + "set(9,4,20)=8 of(9,4)=20 set(10,4,20)=BEYOND");
    }

    private static void turn() {
        begin("Promise 9");
        says("One becomes one of another KIND: what it was. BEYOND.");
        range(told("man pub"), "turn(", 0, 0, ",1)");
        range(told("man pub"), "turn(0,", 0, 5, ")");
        due(told("stranger pub"), "turn(0,0)=5 turn(0,5)=0 turn(0,6)=BEYOND turn(0,-1)=BEYOND of(0,0)=5 turn(0,5)=5");
        due(nobody(), "turn(0,0)=BEYOND");
    }

    private static void as() {
        begin("Promise 10");
        says("One as one of a kind: STRONG. BEYOND: no such one, kind.");
        range(told("man pub"), "as(", 0, 0, ",0)");
        range(told("man pub"), "as(0,", 0, 5, ")");
        due(told("man pub strong 20;stranger pub strong 1"), "as(0,0)=20 as(1,5)=1 as(1,2)=1 as(1,0)=1 as(2,0)=BEYOND as(-1,0)=BEYOND");
        due(nobody(), "as(0,0)=BEYOND");
        says("KIND: it isn't of that kind, nor of one under it.");
        due(told("son pub"), "as(0,0)=8 as(0,1)=8 as(0,4)=KIND as(0,3)=KIND turn(0,4) as(0,4)=8 as(0,1)=8 as(0,0)=8 as(0,2)=KIND");
    }

    private static void relieve() {
        begin("Promise 11");
        says("One that is off (fresh) comes ON for one of its SIDE that is ON (weary), who is off then: 1. BEYOND.");
        due(told("man pub on;man pub"), "relieve(1,0)=1 now(7)=2 relieve(0,1)=1 now(7)=1");
        range(told("man pub;man pub on"), "relieve(", 0, 1, ",1)");
        range(told("man pub;man pub on"), "relieve(0,", 0, 1, ")");
        due(nobody(), "relieve(0,0)=BEYOND");
        says("STATE: they aren't so.");
        due(told("man pub on;man pub"), "relieve(0,1)=STATE relieve(0,0)=STATE relieve(1,1)=STATE now(7)=1");
        due(told("man pub on;man pub on"), "relieve(0,1)=STATE now(7)=3");
        due(told("man pub;man pub"), "relieve(0,1)=STATE now(7)=0");
        due(told("man pub on;man chapel"), "relieve(1,0)=STATE now(7)=1");
    }

    // ---- days

    private static void days() {
        begin("Promise 12");
        says("n DAYS go (1 to 100): KNOT then. BEYOND.");
        range(nobody(), "days(", 1, 100, ")");
        due(told("slack 1;son chapel strong 1 tired 99 on"), "days(1)=1 now(0)=1 days(100)=101 now(0)=101 days(0)=BEYOND"
            + " days(101)=BEYOND now(0)=101 now(4)=101");
        says("STATE: DAY would be above 99999.");
        // No 512 calls get there; the class is held to it all the same.
        due(told("slack 1;son chapel strong 1 tired 99 on").beyondItsCalls(), times(999, "days(100)") + "days(100)=STATE"
            + " days(101)=BEYOND now(0)=99900 now(4)=9999 days(98)=9999 now(0)=99998 days(2)=STATE days(1)=9999"
            + " days(1)=STATE days(0)=BEYOND now(0)=99999 status(4)=3");
    }

    /** KNOT goes 1 a DAY to the chapel. */
    private static Tug steady(int knot) {
        return told("slack 1;son chapel strong 1 tired 99 on;knot " + (knot < 0 ? "pub " : "chapel ") + Math.abs(knot));
    }

    /** KNOT goes 1 a DAY to the pub. */
    private static Tug steadyPub(int knot) {
        return told("slack 1;son pub strong 1 tired 99 on;knot " + (knot < 0 ? "pub " : "chapel ") + Math.abs(knot));
    }

    private static void on() {
        begin("Promise 13");
        says("KNOT (what 0), who is ON, as a set (1) n DAYS (0 to 400) ON AND ON. BEYOND.");
        range(steady(0), "on(", 0, 400, ",0)");
        range(steady(0), "on(0,", 0, 1, ")");
        due(steady(7), "on(0,0)=7 on(1,0)=8 on(399,0)=406 on(400,0)=407 on(0,1)=1 on(400,1)=1 on(401,0)=BEYOND on(-1,1)=BEYOND");
        due(nobody(), "on(0,0)=0 on(400,0)=0 on(0,1)=0 on(400,1)=0");
        due(nobody(), times(10, "person(0,0)") + "on(0,1)=0 on(1,1)=1" + " set(9,2,1) on(0,1)=512 on(1,1)=512");
    }

    private static void then() {
        begin("Promise 14");
        says("ON (what 0), TIRED (1) of one n DAYS (0 to 400) ON AND ON. BEYOND.");
        range(steady(0), "then(", 0, 0, ",1,0)");
        range(steady(0), "then(0,", 0, 400, ",0)");
        range(steady(0), "then(0,1,", 0, 1, ")");
        due(told("man pub tired 91;man pub on"), "then(0,0,0)=0 then(0,0,1)=91 then(0,9,1)=1 then(0,10,1)=0 then(0,22,0)=0 then(0,23,0)=1"
            + " then(1,23,0)=0 then(1,23,1)=92 then(2,0,0)=BEYOND");
        due(steady(0), "then(0,400,0)=1 then(0,400,1)=99");
        due(nobody(), "then(0,0,0)=BEYOND");
    }

    private static void wins() {
        begin("Promise 15");
        says("In how many DAYS (0 to 400) KNOT is v (1 to 9999) or more towards a SIDE first. BEYOND. NONE.");
        range(steady(0), "wins(", 0, 1, ",1)");
        range(steady(0), "wins(1,", 1, 9999, ")");
        due(steady(5), "wins(1,1)=0 wins(1,5)=0 wins(1,6)=1 wins(1,405)=400 wins(1,406)=NONE wins(0,1)=NONE");
        due(steadyPub(-5), "wins(0,1)=0 wins(0,5)=0 wins(0,6)=1 wins(0,405)=400 wins(0,406)=NONE wins(1,1)=NONE");
        due(steady(9599), "wins(1,9999)=400 wins(1,9998)=399 knot(9598) wins(1,9999)=NONE knot(9999) wins(1,9999)=0");
        due(steady(-399), "wins(1,1)=400 knot(-400) wins(1,1)=NONE");
        due(nobody(), "wins(0,1)=NONE wins(1,1)=NONE");
    }

    private static void off() {
        begin("Promise 16");
        says("In how many DAYS (0 to 400) one is off first. BEYOND. NONE.");
        range(told("man pub;man pub on"), "off(", 0, 1, ")");
        due(told("man pub on;man pub"), "off(1)=0 off(0)=23 set(0,3,86) off(0)=1 set(0,3,85) off(0)=2 set(0,3,99) off(0)=1");
        due(told("man pub on"), "off(0)=NONE set(0,3,99) off(0)=NONE");
        due(nobody(), "off(0)=BEYOND");
        due(told("woman pub on;man pub"), "harvest(255) off(0)=45 harvest(0) off(0)=15");
    }

    private static void turns() {
        begin("Promise 17");
        says("In how many DAYS (1 to 400) another SIDE than now is AHEAD (or none, or one instead of none) first. NONE.");
        due(steady(0), "turns()=1 knot(1) turns()=NONE knot(-1) turns()=1 knot(-400) turns()=400 knot(-401) turns()=NONE");
        due(steadyPub(0), "turns()=1 knot(-1) turns()=NONE knot(1) turns()=1 knot(400) turns()=400 knot(401) turns()=NONE");
        due(told("slack 0;man chapel on;knot pub 7"), "turns()=1 now(4)=-7 on(1,0)=1");
        due(nobody(), "turns()=NONE knot(5) turns()=NONE");
    }

    // ---- what is best

    private static final String VILLAGE = "slack 1;man pub on;drinker pub strong 9;woman pub tired 40;son chapel on;"
        + "preacher chapel strong 7;stranger chapel on";

    /** Of some changes the first with which on(n, 0) is farthest towards a side; each change is taken back. */
    private static int farthest(String[] changes, String[] back, int n, int side) {
        int best = -1;
        long far = 0;
        Tug tug = told(VILLAGE);
        for (int i = 0; i < changes.length; i++) {
            if (changes[i] != null) {
                tug.due(changes[i]);
                long knot = tug.ask("on(" + n + ",0)");
                long towards = side == 1 ? knot : -knot;
                if (best < 0 || towards > far) {
                    best = i;
                    far = towards;
                }
                tug.due(back[i]);
            }
        }
        return best;
    }

    private static void spell() {
        begin("Promise 18");
        says("so that KNOT is farthest towards its SIDE n DAYS (1 to 60) ON AND ON");
        range(told("man pub on;man pub"), "spell(", 0, 1, ",1)");
        range(told("man pub on;man pub"), "spell(0,", 1, 60, ")");
        String[] pub = {null, "relieve(1,0)", "relieve(2,0)", null, null, null};
        String[] back = {null, "relieve(0,1)", "relieve(0,2)", null, null, null};
        for (int n : new int[] {1, 2, 7, 59, 60}) {
            due(told(VILLAGE), "spell(0," + n + ")=" + farthest(pub, back, n, 0) + " now(7)=41 now(0)=0");
        }
        due(told("slack 0;man chapel on;man chapel strong 9;man chapel strong 10"), "spell(0,1)=2 set(1,4,11) spell(0,1)=1");
        says("of several the least. BEYOND.");
        due(told("man pub;man pub;man pub on;man pub"), "spell(2,1)=0 set(1,4,9) set(3,4,9) spell(2,1)=1 slack(99) spell(2,60)=0");
        due(nobody(), "spell(0,1)=BEYOND");
        says("STATE: it is off.");
        due(told("man pub;man pub"), "spell(0,1)=STATE spell(1,60)=STATE set(0,2,1) spell(0,1)=1");
        says("NONE: nobody of its SIDE is off.");
        due(told("man pub on;man pub on;man chapel"), "spell(0,1)=NONE spell(1,60)=NONE set(1,2,0) spell(0,1)=1");
    }

    private static String[] sixTurns(int person, boolean back, int kind) {
        String[] turns = new String[6];
        for (int i = 0; i < 6; i++) {
            turns[i] = "turn(" + person + "," + (back ? kind : i) + ")";
        }
        return turns;
    }

    private static void kind() {
        begin("Promise 19");
        says("lets KNOT be farthest towards its SIDE n DAYS (1 to 60) ON AND ON");
        range(told("man pub"), "kind(", 0, 0, ",1)");
        range(told("man pub"), "kind(0,", 1, 60, ")");
        int[] kinds = {0, 2, 3, 1, 4, 5};
        for (int n : new int[] {1, 6, 7, 59, 60}) {
            for (int person = 0; person < 6; person++) {
                int best = farthest(sixTurns(person, false, 0), sixTurns(person, true, kinds[person]), n, person < 3 ? 0 : 1);
                due(told(VILLAGE), "kind(" + person + "," + n + ")=" + best + " of(" + person + ",0)=" + kinds[person]);
            }
        }
        says("of several the least. BEYOND.");
        due(told("stranger pub"), "kind(0,1)=0 slack(99) kind(0,60)=0 set(0,2,1) kind(0,60)=0");
        due(told("stranger pub on"), "kind(0,1)=1 harvest(1) kind(0,1)=3");
        // What was best in an earlier call is nothing to a later one.
        due(told("slack 0;man pub on"), "harvest(1) knot(-9999) kind(0,1)=0 knot(5000) kind(0,1)=3");
        due(nobody(), "kind(0,1)=BEYOND");
    }

    private static void week() {
        begin("Promise 20");
        says("lets KNOT be farthest towards a SIDE n DAYS (1 to 100) ON AND ON");
        range(nobody(), "week(", 0, 1, ",1)");
        range(nobody(), "week(0,", 1, 100, ")");
        for (int harvest : new int[] {0, 32, 255}) {
            String[] changes = new String[8];
            String[] back = new String[8];
            for (int week = 0; week < 8; week++) {
                changes[week] = "turn(0,3) harvest(" + (harvest ^ 1 << week) + ")";
                back[week] = "harvest(32)";
            }
            for (int n : new int[] {1, 7, 8, 56, 57, 99, 100}) {
                for (int side = 0; side < 2; side++) {
                    due(told(VILLAGE), "turn(0,3) harvest(" + harvest + ") week(" + side + "," + n + ")="
                        + farthest(changes, back, n, side) + " harvest(0)=" + harvest);
                }
            }
        }
        says("of several the least. BEYOND.");
        due(nobody(), "week(0,100)=0 week(1,100)=0");
        due(told("woman pub on"), "week(0,1)=0 week(1,1)=1 harvest(1) week(0,1)=1 week(1,1)=0");
        due(Tug.onDay(49), "person(3,0) set(0,2,1) week(0,1)=7 week(1,1)=0 week(0,8)=7 harvest(128) week(0,7)=0 week(1,7)=7");
    }

    private static void strong() {
        begin("Promise 21");
        says("The least STRONG (1 to 20) of one");
        due(told("slack 0;man pub on"), "strong(0,1,0)=1 strong(0,1,1)=1 strong(0,1,2)=2 strong(0,1,20)=20 strong(0,1,21)=NONE of(0,4)=8");
        due(told("slack 0;man chapel on"), "strong(0,1,0)=1 strong(0,1,1)=1 strong(0,1,2)=2 strong(0,1,20)=20 strong(0,1,21)=NONE of(0,4)=8");
        says("KNOT is v (-9999 to 9999) or more towards its SIDE n DAYS (1 to 60) ON AND ON. BEYOND. NONE.");
        range(told("man pub"), "strong(", 0, 0, ",1,0)");
        range(told("man pub"), "strong(0,", 1, 60, ",0)");
        range(told("man pub"), "strong(0,1,", -9999, 9999, ")");
        due(told("man pub"), "strong(0,1,-9999)=1 strong(0,60,9999)=NONE knot(-9999) strong(0,60,9999)=1 knot(9999) strong(0,1,-9999)=1 strong(0,1,-9998)=NONE");
        for (int n : new int[] {1, 59, 60}) {
            Tug tug = told("slack 0;man pub strong 10 on");
            long far = -tug.ask("on(" + n + ",0)");
            due(tug, "strong(0," + n + "," + far + ")=10 strong(0," + n + "," + (far + 1) + ")=11");
        }
        due(nobody(), "strong(0,1,0)=BEYOND");
    }

    private static void bears() {
        begin("Promise 22");
        says("The greatest TIRED (0 to 99) of one now with which it is ON n DAYS (1 to 60) ON AND ON. BEYOND. NONE.");
        range(told("man pub"), "bears(", 0, 0, ",1)");
        range(told("man pub"), "bears(0,", 1, 60, ")");
        due(told("man pub on"), "bears(0,1)=99 bears(0,60)=99 of(0,3)=0");
        due(told("man pub on;man pub on"), "bears(0,1)=85 bears(0,2)=81 bears(0,22)=1");
        due(told("son pub on;son pub on"), "bears(0,1)=91 bears(0,31)=1");
        due(told("woman pub on;woman pub on"), "bears(0,1)=27 bears(0,14)=1 harvest(255) bears(0,1)=87 bears(0,44)=1");
        // On the day on which the other one lets go, one that was off comes, however tired it had been.
        due(told("man pub on;man pub on"), "bears(0,23)=99");
        due(told("man pub;man pub on"), "bears(0,1)=NONE bears(0,22)=NONE bears(0,23)=99");
        due(alone(2, 0, 6, 0, 8), "set(0,2,1) person(0,0) set(1,3,17) bears(0,1)=0 set(1,3,16) bears(0,1)=NONE set(1,3,18) bears(0,1)=1");
        for (int n : new int[] {59, 60}) {
            for (int person = 0; person < 6; person++) {
                Tug tug = told(VILLAGE);
                String most = "NONE";
                for (int tired = 0; tired < 100; tired++) {
                    tug.ask("set(" + person + ",3," + tired + ")");
                    most = tug.ask("then(" + person + "," + n + ",0)") == 1 ? "" + tired : most;
                }
                due(told(VILLAGE), "bears(" + person + "," + n + ")=" + most);
            }
        }
        due(nobody(), "bears(0,1)=BEYOND");
    }

    private static void fewest() {
        begin("Promise 23");
        says("(of those of a SIDE that are off), with which it PULLS more than the other SIDE, as all is");
        range(told("man pub;man chapel"), "fewest(", 0, 1, ")");
        due(told("man pub;man chapel on"), "fewest(0)=NONE set(0,4,9) fewest(0)=1 fewest(1)=0 now(7)=2");
        due(told("man pub on;man chapel on"), "fewest(0)=NONE fewest(1)=NONE set(0,4,9) fewest(0)=0");
        due(told("man pub;man pub strong 20 on;man chapel strong 20 on"), "fewest(0)=1 set(2,4,19) fewest(0)=0");
        due(told("stranger pub;man chapel strong 7 on"), "fewest(0)=1 knot(-1) fewest(0)=NONE knot(1) fewest(0)=1");
        due(nobody(), times(10, "person(0,0)") + setAll(4, 2) + "set(9,1,1) set(9,2,1) set(9,4,17) fewest(0)=511 set(9,4,18) fewest(0)=NONE");
        due(nobody(), times(10, "person(0,0)") + "set(0,1,1) set(0,2,1) set(9,4,9) fewest(0)=512");
        says("of several the least. BEYOND. NONE.");
        due(told("man pub;man pub;man pub;man chapel strong 15 on"), "fewest(0)=3 set(0,4,1) fewest(0)=6 set(0,4,20) fewest(0)=1 set(2,4,16) fewest(0)=1 set(0,4,1) fewest(0)=4");
        due(nobody(), "fewest(0)=NONE fewest(1)=NONE fewest(-1)=BEYOND");
    }

    private static void traitor() {
        begin("Promise 24");
        says("moves KNOT most (whichever way) against what it would be n DAYS (1 to 60) ON AND ON");
        range(told("man pub"), "traitor(", 1, 60, ")");
        due(told("slack 0;man pub on;man chapel on"), "traitor(1)=0 set(1,4,9) traitor(1)=1 set(0,4,10) traitor(1)=0 of(0,1)=0");
        int[] sides = {0, 0, 0, 1, 1, 1};
        for (int n : new int[] {1, 7, 59, 60}) {
            Tug tug = told(VILLAGE);
            long stays = tug.ask("on(" + n + ",0)");
            int best = 0;
            long most = -1;
            for (int i = 0; i < 6; i++) {
                tug.ask("set(" + i + ",1," + (1 - sides[i]) + ")");
                long by = Math.abs(tug.ask("on(" + n + ",0)") - stays);
                tug.ask("set(" + i + ",1," + sides[i] + ")");
                if (by > most) {
                    most = by;
                    best = i;
                }
            }
            due(told(VILLAGE), "traitor(" + n + ")=" + best);
        }
        // From one end of KNOT to the other, held at both.
        due(told("slack 0;knot chapel 9999;man chapel on;man chapel strong 20 on"), "traitor(1)=1");
        due(told("slack 0;knot pub 9999;man pub on;man pub strong 20 on"), "traitor(1)=1");
        says("of several the least. BEYOND.");
        due(told("slack 99;man pub on;man chapel on"), "traitor(1)=0 traitor(60)=0");
        due(told("slack 0;man pub;man pub strong 9 on;man pub strong 9 on"), "traitor(1)=1");
        due(told("slack 0;man pub on;man chapel strong 9 on"), "knot(9999) week(1,1)=0 knot(0) traitor(1)=1");
        says("NONE: nobody is there.");
        due(nobody(), "traitor(1)=NONE traitor(60)=NONE person(0,0) traitor(1)=0");
    }

    // ---- the text

    private static void feed() {
        begin("Promise 25");
        says("THE TAPE gets the n lowest bytes of a number behind it, the highest of these first (n 1 to 4)");
        range(nobody(), "feed(0,", 1, 4, ")");
        range(nobody(), "feed(MIN,", 1, 4, ")");
        range(nobody(), "feed(-1,", 1, 4, ")");
        // 's' alone of 0x41414173, 'la' of 0x80006c61, 'ck ' of 0xff636b20, and '7;pl' whole.
        due(nobody(), "feed(" + 0x41414173 + ",1)=1 feed(" + 0x80006c61 + ",2)=3 feed(" + 0xff636b20 + ",3)=6 feed(" + 0x373b706c + ",4)=10"
            + " feed(" + 0x61696e35 + ",4)=14 green()=2 now(5)=7 harvest(0)=0");
        due(nobody().feed("slack 7"), "feed(-1,1)=8 green()=-8");
        due(nobody().feed("slack 7;"), "feed(MIN,4)=12 green()=-9");
        due(nobody().feed("slack 7"), "feed(" + 0x80000000 + ",1)=8 green()=-8");
        says("how many it has. BEYOND: n. FULL.");
        due(nobody(), times(29, "feed(0,4)") + "feed(0,1)=117 feed(0,4)=FULL count(1)=117 feed(0,2)=119 feed(0,2)=FULL feed(0,1)=120"
            + " feed(0,1)=FULL feed(0,5)=BEYOND feed(0,0)=BEYOND count(1)=120");
        due(nobody(), times(29, "feed(0,4)") + "feed(0,4)=120 wipe()=120 feed(0,4)=4");
    }

    private static void wipe() {
        begin("Promise 26");
        says("THE TAPE is empty: how many it had.");
        due(nobody(), "wipe()=0 feed(0,1) wipe()=1 wipe()=0 " + times(30, "feed(0,4)") + "wipe()=120 count(1)=0 wipe()=0");
        due(nobody().feed("slack 7").due("wipe()=7").feed("slack 5"), "green()=1 now(5)=5");
    }

    private static void green() {
        begin("Promise 27");
        says("whose ITEMS come to what there is, and empty then: how many ITEMS.");
        due(told("man pub").feed("son pub;slack 5"), "green()=2 count(0)=2 of(0,0)=0 of(1,0)=1 now(5)=5 count(1)=0 green()=-1");
        due(nobody().feed("man pub;".repeat(9) + "man pub"), "green()=10 count(0)=10 person(0,0)=FULL");
        due(nobody().feed("slack 1;".repeat(14) + "slack 19"), "count(1)=120 green()=15 now(5)=19 count(1)=0");
        says("With a FAULT: -1 less its place (nothing changes but that THE TAPE is empty; no finding).");
        due(nobody(), "green()=-1 status(-1)=0");
        due(nobody().feed("slack 1;".repeat(15)), "green()=-121 now(5)=3 count(1)=0 status(-1)=0");
        due(told("man pub").feed("slack 5;knot pub 5;harvest 1;son pub;x"), "green()=-38 now(5)=3 now(4)=0 harvest(0)=32 count(0)=1 count(1)=0 status(-1)=0");
        due(told("man pub").feed("x"), "green()=-1 green()=-1 wipe()=0");
        // People that a fault took back leave nothing to those that come later.
        due(nobody().feed("woman chapel strong 20 tired 50 on;x"), "green()=-36 person(1,0)=0 of(0,0)=1 of(0,1)=0 of(0,2)=0 of(0,3)=0 of(0,4)=8");
    }

    // ---- sheets

    private static void sheet() {
        begin("Promise 28");
        says("A sheet has n numbers, all 0, of 8, 16 or 64 bits");
        for (int bits : new int[] {8, 16, 64}) {
            due(nobody(), "sheet(0," + bits + ",0)=0 write(0,0,1)=BEYOND sheet(3," + bits + ",40)=40 write(3,0,1)=0 write(3,39,1)=0 write(3,40,1)=BEYOND"
                + " sheet(3," + bits + ",40)=40 write(3,0,1)=0 write(3,39,1)=0 sheet(3," + bits + ",1)=1 write(3,1,1)=BEYOND"
                + " sheet(3," + bits + ",40) write(3,39,1)=0");
        }
        says("bits 0: it is MISSING: n (0 if it is MISSING).");
        due(nobody(), "sheet(0,0,0)=0 sheet(0,0,40)=0 book(0)=MISSING sheet(0,8,3)=3 book(0)=3 sheet(0,0,3)=0 book(0)=MISSING");
        says("BEYOND: no such sheet, other bits.");
        range(nobody(), "sheet(", 0, 3, ",8,1)");
        for (String bits : new String[] {"-1", "1", "7", "9", "15", "17", "32", "63", "65", "-8", "264", "MIN", "MAX"}) {
            due(nobody(), "sheet(0," + bits + ",1)=BEYOND book(0)=MISSING");
        }
        says("SIZE: n is below 0 (also with bits 0).");
        for (String n : new String[] {"-1", "-40", "MIN"}) {
            due(nobody(), "sheet(0,8,2) sheet(0,8," + n + ")=SIZE sheet(0,16," + n + ")=SIZE sheet(0,64," + n + ")=SIZE sheet(0,0," + n + ")=SIZE book(0)=2");
        }
        says("BEYOND: n is above 40 (also with bits 0).");
        for (String n : new String[] {"41", "MAX"}) {
            due(nobody(), "sheet(0,8,2) sheet(0,8," + n + ")=BEYOND sheet(0,16," + n + ")=BEYOND sheet(0,64," + n + ")=BEYOND sheet(0,0," + n + ")=BEYOND book(0)=2");
        }
    }

    private static void write() {
        begin("Promise 29");
        says("Number i of a sheet becomes v (its lowest bits): what it was.");
        due(nobody(), "sheet(0,8,1) write(0,0,127)=0 write(0,0,128)=127 write(0,0,255)=-128 write(0,0,256)=-1 write(0,0,-128)=0 write(0,0,-129)=-128"
            + " write(0,0,MOST)=127 write(0,0,LEAST)=-1 write(0,0,0)=0");
        due(nobody(), "sheet(0,16,1) write(0,0,32767)=0 write(0,0,32768)=32767 write(0,0,65535)=-32768 write(0,0,65536)=-1 write(0,0,-32769)=0"
            + " write(0,0,MOST)=32767 write(0,0,LEAST)=-1 write(0,0,0)=0");
        due(nobody(), "sheet(0,64,1) write(0,0,MOST)=0 write(0,0,LEAST)=MOST write(0,0,4294967296)=LEAST write(0,0,-1)=4294967296 write(0,0,0)=-1");
        says("BEYOND: no such sheet.");
        range(nobody().due("sheet(0,8,1) sheet(3,8,1)"), "write(", 0, 3, ",0,0)");
        says("MISSING.");
        due(nobody(), "write(3,0,0)=MISSING write(3,MIN,0)=MISSING write(3,MAX,0)=MISSING sheet(3,8,1) write(3,0,0)=0 sheet(3,0,1) write(3,0,0)=MISSING");
        says("BEYOND: no such number.");
        range(nobody().due("sheet(0,8,40)"), "write(0,", 0, 39, ",5)");
        due(nobody(), "sheet(0,8,0) write(0,0,5)=BEYOND sheet(0,8,1) write(0,0,5)=0 write(0,1,5)=BEYOND write(0,-1,5)=BEYOND write(0,0,5)=5");
    }

    /** Sheet 0 has 1, 2, .. n, sheet 1 as many zeros. */
    private static Tug rows(int bits, int n) {
        Tug tug = nobody().due("sheet(0," + bits + "," + n + ") sheet(1," + bits + "," + n + ")");
        for (int i = 0; i < n; i++) {
            tug.due("write(0," + i + "," + (i + 1) + ")");
        }
        return tug;
    }

    private static void dueRow(Tug tug, int s, int... row) {
        for (int i = 0; i < row.length; i++) {
            due(tug, "write(" + s + "," + i + ",0)=" + row[i]);
        }
        due(tug, "write(" + s + "," + row.length + ",0)=BEYOND");
    }

    private static void copy() {
        begin("Promise 30");
        says("n numbers of a sheet from one on come to another one from one on (as they all were): n.");
        dueRow(due(rows(8, 4), "copy(0,0,0,1,3)=3"), 0, 1, 1, 2, 3);
        dueRow(due(rows(16, 4), "copy(0,1,0,0,3)=3"), 0, 2, 3, 4, 4);
        dueRow(due(rows(64, 4), "copy(0,0,0,0,4)=4"), 0, 1, 2, 3, 4);
        dueRow(due(rows(8, 4), "copy(0,0,1,0,0)=0"), 1, 0, 0, 0, 0);
        dueRow(due(rows(8, 4), "copy(0,3,1,3,1)=1"), 1, 0, 0, 0, 4);
        due(rows(16, 40), "copy(0,0,1,0,40)=40 write(1,0,0)=1 write(1,39,0)=40 copy(0,0,1,0,41)=BEYOND");
        due(rows(8, 0), "copy(0,0,1,0,0)=0 copy(0,0,1,0,1)=BEYOND");
        says("BEYOND: no such sheet (either).");
        range(rows(8, 1).due("sheet(3,8,1)"), "copy(", 0, 3, ",0,1,0,1)");
        range(rows(8, 1).due("sheet(3,8,1)"), "copy(0,0,", 0, 3, ",0,1)");
        says("MISSING: one is.");
        due(rows(8, 1), "copy(0,0,2,0,1)=MISSING copy(2,0,0,0,1)=MISSING copy(2,0,3,0,1)=MISSING copy(2,0,2,0,0)=MISSING");
        says("KIND: they are not of as many bits.");
        due(rows(8, 1), "sheet(1,16,1) copy(0,0,1,0,1)=KIND copy(1,0,0,0,0)=KIND sheet(1,64,1) copy(0,0,1,0,1)=KIND sheet(0,16,1) copy(0,0,1,0,1)=KIND");
        says("BEYOND: one has not so many, or from, to or n is below 0.");
        range(rows(8, 4), "copy(0,", 0, 2, ",1,0,2)");
        range(rows(8, 4), "copy(0,0,1,", 0, 2, ",2)");
        range(rows(8, 4), "copy(0,0,1,0,", 0, 4, ")");
        range(rows(8, 4), "copy(0,1,1,1,", 0, 3, ")");
        range(rows(8, 4), "copy(0,", 0, 4, ",1,0,0)");
        range(rows(8, 4), "copy(0,0,1,", 0, 4, ",0)");
        due(rows(8, 4), "copy(0,MAX,1,MAX,MAX)=BEYOND copy(0,MIN,1,MIN,MIN)=BEYOND copy(0,1,1,0,MAX)=BEYOND copy(0,0,1,1,MAX)=BEYOND");
        due(rows(8, 4), "sheet(1,8,2) copy(0,0,1,0,3)=BEYOND copy(1,0,0,0,3)=BEYOND copy(0,0,1,0,2)=2 copy(1,0,0,2,2)=2");
    }

    private static void lays() {
        begin("Promise 31");
        says("(those that aren't 1 to 20, or stand for none, are left out): how many came.");
        due(told("man pub;man pub;man pub;man pub"), "sheet(0,8,4) write(0,0,0) write(0,1,1) write(0,2,20) write(0,3,21) lays(0)=2"
            + " of(0,4)=8 of(1,4)=1 of(2,4)=20 of(3,4)=8");
        due(told("man pub;man pub;man pub;man pub"), "sheet(0,64,4) write(0,0,-1) write(0,1,4294967297) write(0,2,MOST) write(0,3,LEAST) lays(0)=0"
            + " of(0,4)=8 of(1,4)=8 of(2,4)=8 of(3,4)=8");
        due(told("man pub"), "sheet(0,8,40) write(0,0,5) write(0,1,5) lays(0)=1 of(0,4)=5");
        due(told("man pub;man pub"), "sheet(0,8,1) write(0,0,5) lays(0)=1 of(0,4)=5 of(1,4)=8 sheet(0,8,0) lays(0)=0");
        Tug ten = nobody().due(times(10, "person(0,0)") + "sheet(0,16,40)");
        for (int i = 0; i < 40; i++) {
            ten.due("write(0," + i + ",9)");
        }
        due(ten, "lays(0)=10 of(9,4)=9");
        due(nobody(), "sheet(0,8,40) write(0,0,5) lays(0)=0 person(0,0) of(0,4)=8");
        says("BEYOND: no such sheet. MISSING.");
        range(nobody().due("sheet(0,8,1)"), "lays(", 0, 3, ")");
        due(told("man pub"), "lays(0)=MISSING lays(3)=MISSING");
    }

    private static void book() {
        begin("Promise 32");
        says("KNOT 0, 1, 2, .. DAYS ON AND ON comes to a sheet, as many as it has numbers: how many.");
        due(steady(9960), "sheet(0,16,40) book(0)=40 write(0,0,0)=9960 write(0,1,0)=9961 write(0,39,0)=9999 now(0)=0 now(4)=9960");
        due(steady(5), "sheet(0,64,0) book(0)=0 sheet(0,64,1) book(0)=1 write(0,0,0)=5");
        due(steady(126), "sheet(0,8,4) book(0)=4 write(0,0,0)=126 write(0,1,0)=127 write(0,2,0)=-128 write(0,3,0)=-127");
        due(steady(-9999), "sheet(0,64,2) book(0)=2 write(0,0,0)=-9999 write(0,1,0)=-9998");
        due(nobody(), "sheet(0,8,40) write(0,39,7) book(0)=40 write(0,39,7)=0");
        says("BEYOND: no such sheet. MISSING.");
        range(nobody().due("sheet(0,8,1)"), "book(", 0, 3, ")");
        due(nobody(), "book(0)=MISSING book(3)=MISSING");
    }

    private static void read() {
        begin("Promise 33");
        says("how many pairs of a KIND and STRONG (1 to 20) of one make it just so.");
        due(told("slack 0;man pub on"), "sheet(0,16,0) read(0,0)=120 sheet(0,16,1) read(0,0)=120 write(0,0,1) read(0,0)=0 knot(1) read(0,0)=120");
        // A day's pull of 1, of 20 and of 22, and none: by MAN, DRINKER, WOMAN, STRANGER, and by 2 more of SON, PREACHER.
        due(told("slack 0;man pub on"), "sheet(0,16,2) write(0,1,-1) read(0,0)=4 write(0,1,-20) read(0,0)=6 write(0,1,-21) read(0,0)=2"
            + " write(0,1,-22) read(0,0)=2 write(0,1,-23) read(0,0)=0 write(0,1,0) read(0,0)=0 of(0,0)=0 of(0,4)=8");
        due(told("slack 99;man pub on"), "sheet(0,8,40) read(0,0)=120 write(0,39,1) read(0,0)=0");
        due(told("slack 99;man pub on"), "knot(-128) sheet(0,8,2) book(0) read(0,0)=120 knot(-129) book(0) read(0,0)=0 knot(128) book(0) read(0,0)=0"
            + " knot(127) book(0) read(0,0)=120 sheet(0,64,1) write(0,0,4294967423) read(0,0)=0");
        says("BEYOND: no such sheet. MISSING. BEYOND: person.");
        range(told("man pub").due("sheet(0,8,1)"), "read(", 0, 3, ",0)");
        range(told("man pub;man pub").due("sheet(0,8,1)"), "read(0,", 0, 1, ")");
        due(told("man pub"), "read(0,0)=MISSING read(3,MAX)=MISSING");
        due(nobody(), "sheet(0,8,0) read(0,0)=BEYOND");
    }

    // ---- images

    private static void image() {
        begin("Promise 34");
        says("All that section 1 tells (THE TAPE not) is kept: 1.");
        due(nobody(), "image()=1 person(0,0) undo()=0 count(0)=0");
        due(nobody(), times(10, "person(5,1)") + setAll(3, 99) + setAll(4, 20) + setAll(2, 1) + "knot(-9999) slack(99) harvest(255) image()=1"
            + " days(100) knot(5) slack(5) harvest(5) turn(9,0) set(9,1,0) set(9,2,0) set(9,4,1) undo()=10 now(0)=0 now(4)=-9999 now(5)=99"
            + " harvest(0)=255 of(9,0)=5 of(9,1)=1 of(9,2)=1 of(9,3)=99 of(9,4)=20 of(0,3)=99");
        due(nobody(), "feed(0,4) sheet(0,8,1) image() feed(0,4) sheet(0,8,2) undo() count(1)=8 book(0)=2 wipe() undo() count(1)=0");
        due(nobody(), "image() image() tear()=1 tear()=0");
    }

    private static void undo() {
        begin("Promise 35");
        says("It becomes what was kept latest (which stays): how many PEOPLE.");
        due(nobody(), "image() person(0,0) image() person(0,0) undo()=1 person(0,0) person(0,0) undo()=1 undo()=1 count(0)=1");
        due(nobody(), times(10, "person(0,0)") + "image() undo()=10");
        due(nobody(), "image() " + times(10, "person(0,0)") + "undo()=0 undo()=0");
        says("NONE: nothing is kept.");
        due(told("man pub"), "undo()=NONE count(0)=1 image() tear() person(0,0) undo()=NONE count(0)=2");
    }

    private static void tear() {
        begin("Promise 36");
        says("Nothing is kept: 1 if something was, else 0.");
        due(nobody(), "tear()=0 image() tear()=1 tear()=0 undo()=NONE image() undo()=0 tear()=1");
        due(told("man pub"), "image() knot(5) tear()=1 now(4)=5 count(0)=1");
    }

    private static void count() {
        begin("Promise 37");
        says("0 PEOPLE, 1 bytes of THE TAPE, 2 those of SIDE 0, 3 TIRED of all together.");
        due(nobody(), "count(0)=0 count(1)=0 count(2)=0 count(3)=0");
        due(nobody(), times(10, "person(0,0)") + setAll(3, 99) + times(30, "feed(0,4)") + "count(0)=10 count(1)=120 count(2)=10 count(3)=990"
            + " set(9,1,1) count(2)=9");
        says("BEYOND: another what.");
        range(nobody(), "count(", 0, 3, ")");
        due(nobody(), "count(4)=BEYOND count(-1)=BEYOND");
    }

    private static void status() {
        begin("Promise 38");
        says("How many acts answered a finding ever (undo() takes none back): which -1: all, 0 to 6: BEYOND to SIZE.");
        range(nobody(), "status(", -1, 6, ")");
        due(nobody(), "status(-1)=0 status(0)=0 status(1)=0 status(2)=0 status(3)=0 status(4)=0 status(5)=0 status(6)=0");
        due(nobody(), "image() slack(100)=BEYOND undo() status(0)=1 status(-1)=1 tear() undo()=NONE status(3)=1 status(-1)=2");
        due(told("man pub;man pub"), times(1, "slack(100)=BEYOND") + times(8, "person(0,0)") + times(2, "person(0,0)=FULL") + times(3, "as(0,1)=KIND")
            + times(4, "undo()=NONE") + times(5, "relieve(0,1)=STATE") + times(6, "lays(0)=MISSING") + times(7, "sheet(0,8,-1)=SIZE")
            + "status(0)=1 status(1)=2 status(2)=3 status(3)=4 status(4)=5 status(5)=6 status(6)=7 status(-1)=28");
        due(nobody().feed("x"), "green()=-1 tear()=0 wipe()=0 status(-1)=0");
        says("BEYOND (counted from then on): another one.");
        due(nobody(), "status(7)=BEYOND status(0)=1 status(-2)=BEYOND status(0)=2 status(-1)=2 status(MAX)=BEYOND status(MIN)=BEYOND status(-1)=4");
        Tug.due("promises with tests", PARTS.stream().filter(name -> name.startsWith("Promise")).count(), 38);
    }
}
