import java.util.ArrayList;
import java.util.List;
import java.util.Random;
import java.util.function.IntUnaryOperator;

/** Random runs of calls, each answer against a second telling of the document, written in another way. */
public final class ModelTest {
    private static final int RUNS = 900;
    private static final int MOST_CALLS = 512;

    public static void main(String[] args) {
        long answers = 0;
        for (int run = 0; run < RUNS; run++) {
            Random random = new Random(run);
            EndlessTug tug = new EndlessTug();
            Model model = new Model();
            StringBuilder told = new StringBuilder();
            // Short runs, too: in long ones there are mostly ten people and little is MISSING.
            int calls = 1 + random.nextInt(run % 3 == 0 ? MOST_CALLS : 60);
            for (int call = 0; call < calls; call++) {
                Call next = Call.any(random, model);
                long got = next.ask(tug);
                long want = next.ask(model);
                told.append(next).append(" = ").append(want).append('\n');
                answers++;
                if (got != want) {
                    System.out.println("run " + run + ":\n" + told + "but answered " + got);
                    System.exit(1);
                }
            }
        }
        System.out.println(answers + " answers as the model's");
    }

    /** One call with its arguments. */
    private static final class Call {
        static final String[] NAMES = {
            "slack", "harvest", "knot", "now", "person", "of", "set", "turn", "as", "relieve", "days", "on", "then",
            "wins", "off", "turns", "spell", "kind", "week", "strong", "bears", "fewest", "traitor", "text", "feed",
            "wipe", "green", "sheet", "write", "copy", "lays", "book", "read", "image", "undo", "tear", "count",
            "status"};

        final String name;
        final int[] a;
        final long v;
        final String text;

        Call(String name, int[] a, long v, String text) {
            this.name = name;
            this.a = a;
            this.v = v;
            this.text = text;
        }

        static int near(Random random, int least, int most) {
            int dice = random.nextInt(40);
            if (dice == 0) {
                return least - 1;
            }
            if (dice == 1) {
                return most + 1;
            }
            if (dice == 2) {
                return random.nextInt();
            }
            if (dice < 6) {
                return dice == 3 ? least : most;
            }
            return least + random.nextInt(most - least + 1);
        }

        static Call any(Random random, Model model) {
            String name = NAMES[random.nextInt(NAMES.length)];
            int who = near(random, 0, Math.max(0, model.people.size() - 1));
            int other = near(random, 0, Math.max(0, model.people.size() - 1));
            int[] a;
            long v = 0;
            switch (name) {
                case "slack": a = new int[] {near(random, 0, random.nextBoolean() ? 9 : 99)}; break;
                case "harvest": a = new int[] {near(random, 0, 255)}; break;
                case "knot": a = new int[] {near(random, -9999, 9999) / (random.nextBoolean() ? 1 : 1000)}; break;
                case "now": a = new int[] {near(random, 0, 9)}; break;
                case "person": a = new int[] {near(random, 0, 5), near(random, 0, 1)}; break;
                case "of": a = new int[] {who, near(random, 0, 7)}; break;
                case "set": {
                    int what = near(random, 1, 4);
                    int most = what == 3 ? 99 : what == 4 ? 20 : 1;
                    a = new int[] {who, what, near(random, what == 4 ? 1 : 0, most)};
                    break;
                }
                case "turn": case "as": a = new int[] {who, near(random, 0, 5)}; break;
                case "relieve": a = new int[] {who, other}; break;
                case "days": a = new int[] {near(random, 1, random.nextBoolean() ? 7 : 100)}; break;
                case "on": a = new int[] {near(random, 0, 400), near(random, 0, 1)}; break;
                case "then": a = new int[] {who, near(random, 0, 400), near(random, 0, 1)}; break;
                case "wins": a = new int[] {near(random, 0, 1), near(random, 1, random.nextBoolean() ? 90 : 9999)}; break;
                case "off": a = new int[] {who}; break;
                case "spell": case "kind": case "bears": a = new int[] {who, near(random, 1, 60)}; break;
                case "week": a = new int[] {near(random, 0, 1), near(random, 1, 100)}; break;
                case "strong": {
                    int v1 = near(random, -9999, 9999);
                    a = new int[] {who, near(random, 1, 60), random.nextBoolean() ? v1 : model.knot + v1 % 100};
                    break;
                }
                case "fewest": a = new int[] {near(random, 0, 1)}; break;
                case "traitor": a = new int[] {near(random, 1, 60)}; break;
                case "text": return new Call(name, new int[0], 0, Text.any(random));
                case "feed": a = new int[] {random.nextInt(), near(random, 1, 4)}; break;
                case "sheet": {
                    int[] bits = {0, 8, 8, 16, 16, 64, 64, near(random, 0, 64)};
                    a = new int[] {near(random, 0, 3), bits[random.nextInt(8)], near(random, 0, random.nextBoolean() ? 40 : 6)};
                    break;
                }
                case "write":
                    a = new int[] {near(random, 0, 3), near(random, 0, 6)};
                    v = random.nextBoolean() ? random.nextInt(25) : random.nextLong() >> random.nextInt(64);
                    break;
                case "copy":
                    a = new int[] {near(random, 0, 3), near(random, 0, 6), near(random, 0, 3), near(random, 0, 6), near(random, 0, 6)};
                    break;
                case "lays": case "book": a = new int[] {near(random, 0, 3)}; break;
                case "read": a = new int[] {near(random, 0, 3), who}; break;
                case "count": a = new int[] {near(random, 0, 3)}; break;
                case "status": a = new int[] {near(random, -1, 6)}; break;
                default: a = new int[0];
            }
            return new Call(name, a, v, "");
        }

        long ask(EndlessTug x) {
            switch (name) {
                case "slack": return x.slack(a[0]);
                case "harvest": return x.harvest(a[0]);
                case "knot": return x.knot(a[0]);
                case "now": return x.now(a[0]);
                case "person": return x.person(a[0], a[1]);
                case "of": return x.of(a[0], a[1]);
                case "set": return x.set(a[0], a[1], a[2]);
                case "turn": return x.turn(a[0], a[1]);
                case "as": return x.as(a[0], a[1]);
                case "relieve": return x.relieve(a[0], a[1]);
                case "days": return x.days(a[0]);
                case "on": return x.on(a[0], a[1]);
                case "then": return x.then(a[0], a[1], a[2]);
                case "wins": return x.wins(a[0], a[1]);
                case "off": return x.off(a[0]);
                case "turns": return x.turns();
                case "spell": return x.spell(a[0], a[1]);
                case "kind": return x.kind(a[0], a[1]);
                case "week": return x.week(a[0], a[1]);
                case "strong": return x.strong(a[0], a[1], a[2]);
                case "bears": return x.bears(a[0], a[1]);
                case "fewest": return x.fewest(a[0]);
                case "traitor": return x.traitor(a[0]);
                case "feed": return x.feed(a[0], a[1]);
                case "wipe": return x.wipe();
                case "green": return x.green();
                case "sheet": return x.sheet(a[0], a[1], a[2]);
                case "write": return x.write(a[0], a[1], v);
                case "copy": return x.copy(a[0], a[1], a[2], a[3], a[4]);
                case "lays": return x.lays(a[0]);
                case "book": return x.book(a[0]);
                case "read": return x.read(a[0], a[1]);
                case "image": return x.image();
                case "undo": return x.undo();
                case "tear": return x.tear();
                case "count": return x.count(a[0]);
                case "status": return x.status(a[0]);
                default:
                    x.wipe();
                    for (int i = 0; i < text.length(); i++) {
                        x.feed(text.charAt(i), 1);
                    }
                    return x.green();
            }
        }

        long ask(Model m) {
            switch (name) {
                case "write": return m.write(a[0], a[1], v);
                case "copy": return m.copy(a[0], a[1], a[2], a[3], a[4]);
                case "text": return m.text(text);
                default: return m.ask(name, at(0), at(1), at(2));
            }
        }

        private int at(int i) {
            return i < a.length ? a[i] : 0;
        }

        @Override
        public String toString() {
            return name + java.util.Arrays.toString(a) + (name.equals("write") ? " " + v : "") + text;
        }
    }

    /** Texts that are mostly right, with a slip here and there. */
    private static final class Text {
        private static final String[] KINDS = {"man", "son", "drinker", "woman", "preacher", "stranger"};
        private static final String[] SLIPS = {"", ";", " ", "on", "pub", "7", "x", "tired 3", "strong", ".", "10000", "B"};

        static String any(Random random) {
            StringBuilder text = new StringBuilder();
            int items = random.nextInt(4);
            for (int i = 0; i <= items; i++) {
                if (i > 0) {
                    text.append(random.nextBoolean() ? ";" : " ; ");
                }
                text.append(item(random));
            }
            if (random.nextInt(3) == 0) {
                int at = random.nextInt(text.length() + 1);
                text.insert(at, SLIPS[random.nextInt(SLIPS.length)]);
            }
            if (random.nextInt(8) == 0) {
                text.setLength(random.nextInt(text.length() + 1));
            }
            return text.substring(0, Math.min(120, text.length()));
        }

        private static String item(Random random) {
            String side = random.nextBoolean() ? "pub" : "chapel";
            switch (random.nextInt(6)) {
                case 0: return (random.nextBoolean() ? "harvest " : "plain ") + Call.near(random, 0, 7);
                case 1: return "knot " + side + " " + Call.near(random, 0, 9999);
                case 2: return "slack " + Call.near(random, 0, 99);
                default:
                    return KINDS[random.nextInt(6)] + " " + side
                        + (random.nextBoolean() ? " strong " + Call.near(random, 1, 20) : "")
                        + (random.nextBoolean() ? " tired " + Call.near(random, 0, 99) : "")
                        + (random.nextBoolean() ? " on" : "");
            }
        }
    }

    /** The document told again: people are rows {kind, side, on, tired, strong}. */
    private static final class Model {
        static final int BEYOND = 0, FULL = 1, KIND = 2, NONE = 3, STATE = 4, MISSING = 5, SIZE = 6;
        static final int[] UP = {-1, 0, 0, 0, 1, 2};

        int day;
        int harvest = 32;
        int knot;
        int slack = 3;
        List<int[]> people = new ArrayList<>();
        final List<Integer> tape = new ArrayList<>();
        final long[][] sheets = new long[4][];
        final int[] bits = new int[4];
        Model image;
        final int[] found = new int[7];

        int tell(int which) {
            found[which]++;
            return -1000000001 - which;
        }

        Model twin() {
            Model m = new Model();
            m.day = day;
            m.harvest = harvest;
            m.knot = knot;
            m.slack = slack;
            for (int[] p : people) {
                m.people.add(p.clone());
            }
            return m;
        }

        void takeFrom(Model m) {
            Model t = m.twin();
            day = t.day;
            harvest = t.harvest;
            knot = t.knot;
            slack = t.slack;
            people = t.people;
        }

        boolean sunday() {
            return (day + 1) % 7 == 0;
        }

        boolean inHarvest() {
            return (harvest & 1 << (day % 56) / 7) != 0;
        }

        int lead(int side) {
            return knot * (2 * side - 1);
        }

        int pulls(int[] p) {
            int man = Math.max(0, p[4] - p[3] / 10);
            if (p[0] == 1) return man + 2;
            if (p[0] == 2) return sunday() ? 1 : man;
            if (p[0] == 3) return man + (inHarvest() ? 4 : 0);
            if (p[0] == 4) return (man + 2) * (sunday() ? 2 : 1);
            if (p[0] == 5) return lead(p[1]) > 0 ? 0 : sunday() ? 1 : man;
            return man;
        }

        int tires(int[] p) {
            return new int[][] {{4, 3, 4, 2, 3, 2}, {4, 3, 7, 2, 0, 5}}[sunday() ? 1 : 0][p[0]];
        }

        boolean letsGo(int[] p) {
            int t = p[3];
            boolean go = t >= (p[0] == 1 || p[0] == 4 ? 95 : 90);
            if (p[0] == 2 || p[0] == 5) go |= sunday();
            if (p[0] == 3) go |= t >= 30 && !inHarvest();
            if (p[0] == 5) go |= t >= 20 && lead(p[1]) <= 0;
            return go;
        }

        int side(int side) {
            return people.stream().filter(p -> p[2] == 1 && p[1] == side).mapToInt(this::pulls).sum();
        }

        Model after(int n) {
            Model m = twin();
            for (int i = 0; i < n; i++) {
                m.aDay();
            }
            return m;
        }

        void aDay() {
            int[] pull = {side(0), side(1)};
            int by = Math.max(0, Math.abs(pull[0] - pull[1]) - slack);
            knot = Math.max(-9999, Math.min(9999, knot + Integer.signum(pull[1] - pull[0]) * by));
            for (int[] p : people) {
                if (p[2] == 1) {
                    p[3] = Math.min(99, p[3] + tires(p));
                    p[2] = letsGo(p) ? 0 : 1;
                } else {
                    p[3] = Math.max(0, p[3] - 10);
                }
            }
            for (int s = 0; s < 2; s++) {
                int side = s;
                if (people.stream().noneMatch(p -> p[1] == side && p[2] == 1)) {
                    people.stream().filter(p -> p[1] == side).min((p, q) -> p[3] - q[3]).ifPresent(p -> p[2] = 1);
                }
            }
            day++;
        }

        int ahead() {
            return knot == 0 ? -1 : knot < 0 ? 0 : 1;
        }

        int ons() {
            int set = 0;
            for (int i = 0; i < people.size(); i++) {
                set += people.get(i)[2] << i;
            }
            return set;
        }

        boolean one(int person) {
            return person >= 0 && person < people.size();
        }

        static boolean in(int v, int low, int high) {
            return low <= v && v <= high;
        }

        /** Where KNOT is towards a side, one's row changed, n days on. */
        int farWith(int person, int what, int v, int n, int side) {
            Model m = twin();
            m.people.get(person)[what] = v;
            return m.after(n).lead(side);
        }

        static int firstBest(int n, IntUnaryOperator worth) {
            int best = 0;
            for (int i = 1; i < n; i++) {
                if (worth.applyAsInt(i) > worth.applyAsInt(best)) {
                    best = i;
                }
            }
            return best;
        }

        long ask(String name, int a, int b, int c) {
            switch (name) {
                case "slack": case "harvest": case "knot": return lay(name, a);
                case "now": return in(a, 0, 9) ? now(a) : tell(BEYOND);
                case "person": case "of": case "set": case "turn": case "as": case "relieve": return people(name, a, b, c);
                case "days": case "on": case "then": case "wins": case "off": case "turns": return days(name, a, b, c);
                case "spell": case "kind": case "week": case "strong": case "bears": case "fewest": case "traitor":
                    return best(name, a, b, c);
                case "feed": return feed(a, b);
                case "wipe": return empty();
                case "green": return text();
                case "sheet": case "lays": case "book": case "read": return sheets(name, a, b, c);
                case "image": image = twin(); return 1;
                case "undo":
                    if (image == null) return tell(NONE);
                    takeFrom(image);
                    return people.size();
                case "tear": int was = image == null ? 0 : 1; image = null; return was;
                case "count": return count(a);
                case "status": return status(a);
                default: throw new IllegalStateException(name);
            }
        }

        int text(String text) {
            tape.clear();
            text.chars().forEach(tape::add);
            return text();
        }

        int empty() {
            int n = tape.size();
            tape.clear();
            return n;
        }

        int lay(String name, int v) {
            int was;
            if (name.equals("slack")) {
                if (!in(v, 0, 99)) return tell(BEYOND);
                was = slack;
                slack = v;
            } else if (name.equals("harvest")) {
                if (!in(v, 0, 255)) return tell(BEYOND);
                was = harvest;
                harvest = v;
            } else {
                if (!in(v, -9999, 9999)) return tell(BEYOND);
                was = knot;
                knot = v;
            }
            return was;
        }

        int now(int what) {
            int[] all = {day, day % 56 / 7, inHarvest() ? 1 : 0, sunday() ? 1 : 0, knot, slack, ahead(), ons(), side(0), side(1)};
            return all[what];
        }

        int people(String name, int a, int b, int c) {
            if (name.equals("person")) {
                if (!in(a, 0, 5) || !in(b, 0, 1)) return tell(BEYOND);
                if (people.size() == 10) return tell(FULL);
                people.add(new int[] {a, b, 0, 0, 8});
                return people.size() - 1;
            }
            if (!one(a)) return tell(BEYOND);
            int[] p = people.get(a);
            if (name.equals("of")) {
                if (!in(b, 0, 7)) return tell(BEYOND);
                return b < 5 ? p[b] : b == 5 ? pulls(p) : b == 6 ? tires(p) : letsGo(p) ? 1 : 0;
            }
            if (name.equals("set")) {
                int[] low = {0, 0, 0, 0, 1};
                int[] high = {0, 1, 1, 99, 20};
                if (!in(b, 1, 4) || !in(c, low[b], high[b])) return tell(BEYOND);
                int was = p[b];
                p[b] = c;
                return was;
            }
            if (name.equals("relieve")) {
                if (!one(b)) return tell(BEYOND);
                int[] q = people.get(b);
                if (p[2] != 0 || q[2] != 1 || p[1] != q[1]) return tell(STATE);
                p[2] = 1;
                q[2] = 0;
                return 1;
            }
            if (!in(b, 0, 5)) return tell(BEYOND);
            if (name.equals("turn")) {
                int was = p[0];
                p[0] = b;
                return was;
            }
            int k = p[0];
            while (k != b && k >= 0) {
                k = UP[k];
            }
            return k == b ? p[4] : tell(KIND);
        }

        int days(String name, int a, int b, int c) {
            switch (name) {
                case "days":
                    if (!in(a, 1, 100)) return tell(BEYOND);
                    takeFrom(after(a));
                    return knot;
                case "on":
                    if (!in(a, 0, 400) || !in(b, 0, 1)) return tell(BEYOND);
                    return b == 0 ? after(a).knot : after(a).ons();
                case "then":
                    if (!one(a) || !in(b, 0, 400) || !in(c, 0, 1)) return tell(BEYOND);
                    return after(b).people.get(a)[2 + c];
                case "wins": if (!in(a, 0, 1) || !in(b, 1, 9999)) return tell(BEYOND); break;
                case "off": if (!one(a)) return tell(BEYOND); break;
                default:
            }
            Model m = twin();
            for (int n = 0; n <= 400; n++) {
                boolean now = name.equals("wins") ? m.lead(a) >= b
                    : name.equals("off") ? m.people.get(a)[2] == 0 : m.ahead() != ahead();
                if (now) return n;
                m.aDay();
            }
            return tell(NONE);
        }

        int best(String name, int a, int b, int c) {
            switch (name) {
                case "week":
                    if (!in(a, 0, 1) || !in(b, 1, 100)) return tell(BEYOND);
                    return firstBest(8, w -> {
                        Model m = twin();
                        m.harvest = harvest ^ 1 << w;
                        return m.after(b).lead(a);
                    });
                case "fewest": return in(a, 0, 1) ? fewest(a) : tell(BEYOND);
                case "traitor":
                    if (!in(a, 1, 60)) return tell(BEYOND);
                    if (people.isEmpty()) return tell(NONE);
                    int stays = after(a).knot;
                    return firstBest(people.size(), i -> Math.abs(farWith(i, 1, 1 - people.get(i)[1], a, 1) - stays));
                default:
            }
            if (!one(a) || !in(b, 1, 60)) return tell(BEYOND);
            int side = people.get(a)[1];
            if (name.equals("kind")) return firstBest(6, k -> farWith(a, 0, k, b, side));
            if (name.equals("spell")) return spell(a, b, side);
            if (name.equals("strong")) {
                if (!in(c, -9999, 9999)) return tell(BEYOND);
                for (int s = 1; s <= 20; s++) {
                    if (farWith(a, 4, s, b, side) >= c) return s;
                }
                return tell(NONE);
            }
            int most = -1;
            for (int t = 0; t < 100; t++) {
                Model m = twin();
                m.people.get(a)[3] = t;
                if (m.after(b).people.get(a)[2] == 1) most = t;
            }
            return most < 0 ? tell(NONE) : most;
        }

        int spell(int a, int n, int side) {
            if (people.get(a)[2] == 0) return tell(STATE);
            int none = -20000;
            IntUnaryOperator worth = i -> {
                if (people.get(i)[1] != side || people.get(i)[2] == 1) return none;
                Model m = twin();
                m.people.get(a)[2] = 0;
                m.people.get(i)[2] = 1;
                return m.after(n).lead(side);
            };
            int best = firstBest(people.size(), worth);
            return worth.applyAsInt(best) == none ? tell(NONE) : best;
        }

        int fewest(int side) {
            for (int n = 0; n <= people.size(); n++) {
                for (int set = 0; set < 1 << people.size(); set++) {
                    if (Integer.bitCount(set) == n && comes(set, side)) return set;
                }
            }
            return tell(NONE);
        }

        boolean comes(int set, int side) {
            Model m = twin();
            for (int i = 0; i < people.size(); i++) {
                int[] p = m.people.get(i);
                if ((set >> i & 1) == 1) {
                    if (p[1] != side || p[2] == 1) return false;
                    p[2] = 1;
                }
            }
            return m.side(side) > m.side(1 - side);
        }

        int feed(int bytes, int n) {
            if (!in(n, 1, 4)) return tell(BEYOND);
            if (tape.size() + n > 120) return tell(FULL);
            byte[] four = {(byte) (bytes >> 24), (byte) (bytes >> 16), (byte) (bytes >> 8), (byte) bytes};
            for (int i = 4 - n; i < 4; i++) {
                tape.add(four[i] & 255);
            }
            return tape.size();
        }

        /** A table of what may stand where, not a parser: each place of an item has a letter. */
        int text() {
            List<String> tokens = new ArrayList<>();
            List<Integer> places = new ArrayList<>();
            cut(tokens, places);
            int length = empty();
            Model m = twin();
            char at = 'i';
            String item = "";
            int side = 0;
            int items = 0;
            for (int i = 0; i < tokens.size(); i++) {
                String t = tokens.get(i);
                int fault = -1 - places.get(i);
                int kind = List.of("man", "son", "drinker", "woman", "preacher", "stranger").indexOf(t);
                boolean digits = Character.isDigit(t.charAt(0));
                int v = digits ? new java.math.BigInteger(t).min(java.math.BigInteger.valueOf(100000)).intValue() : -1;
                int[] last = m.people.isEmpty() ? null : m.people.get(m.people.size() - 1);
                if (at == 'i' && kind >= 0 && m.people.size() < 10) {
                    m.people.add(new int[] {kind, 0, 0, 0, 8});
                    at = 's';
                } else if (at == 'i' && List.of("harvest", "plain", "slack", "knot").contains(t)) {
                    item = t;
                    at = t.equals("knot") ? 'k' : 'n';
                } else if (at == 's' && (t.equals("pub") || t.equals("chapel"))) {
                    last[1] = t.equals("pub") ? 0 : 1;
                    at = 'a';
                } else if (at == 'a' && t.equals("strong")) {
                    at = 'S';
                } else if (at == 'S' && in(v, 1, 20)) {
                    last[4] = v;
                    at = 'b';
                } else if ((at == 'a' || at == 'b') && t.equals("tired")) {
                    at = 'T';
                } else if (at == 'T' && in(v, 0, 99)) {
                    last[3] = v;
                    at = 'c';
                } else if ((at == 'a' || at == 'b' || at == 'c') && t.equals("on")) {
                    last[2] = 1;
                    at = 'e';
                } else if (at == 'k' && (t.equals("pub") || t.equals("chapel"))) {
                    side = t.equals("pub") ? -1 : 1;
                    at = 'n';
                } else if (at == 'n' && in(v, 0, item.equals("knot") ? 9999 : item.equals("slack") ? 99 : 7)) {
                    if (item.equals("knot")) m.knot = side * v;
                    else if (item.equals("slack")) m.slack = v;
                    else if (item.equals("plain")) m.harvest &= 255 - (1 << v);
                    else m.harvest |= 1 << v;
                    at = 'e';
                } else if ("abce".indexOf(at) >= 0 && t.equals(";")) {
                    items++;
                    at = 'i';
                } else {
                    return fault;
                }
            }
            if ("abce".indexOf(at) < 0) return -1 - length;
            takeFrom(m);
            return items + 1;
        }

        void cut(List<String> tokens, List<Integer> places) {
            StringBuilder all = new StringBuilder();
            tape.forEach(b -> all.append((char) b.intValue()));
            java.util.regex.Matcher token = java.util.regex.Pattern.compile("[a-z]+|[0-9]+|[^ ]", java.util.regex.Pattern.DOTALL).matcher(all);
            while (token.find()) {
                tokens.add(token.group());
                places.add(token.start());
            }
        }

        int sheets(String name, int s, int b, int n) {
            if (!in(s, 0, 3)) return tell(BEYOND);
            if (name.equals("sheet")) {
                if (b != 0 && b != 8 && b != 16 && b != 64) return tell(BEYOND);
                if (n < 0) return tell(SIZE);
                if (n > 40) return tell(BEYOND);
                bits[s] = b;
                sheets[s] = b == 0 ? null : new long[n];
                return b == 0 ? 0 : n;
            }
            long[] row = sheets[s];
            if (row == null) return tell(MISSING);
            if (name.equals("lays")) {
                int came = 0;
                for (int i = 0; i < Math.min(row.length, people.size()); i++) {
                    if (row[i] > 0 && row[i] < 21) {
                        people.get(i)[4] = (int) row[i];
                        came++;
                    }
                }
                return came;
            }
            if (name.equals("book")) {
                for (int i = 0; i < row.length; i++) {
                    row[i] = low(after(i).knot, bits[s]);
                }
                return row.length;
            }
            return one(b) ? read(row, b) : tell(BEYOND);
        }

        int read(long[] row, int person) {
            int pairs = 0;
            for (int pair = 0; pair < 120; pair++) {
                Model m = twin();
                m.people.get(person)[0] = pair / 20;
                m.people.get(person)[4] = pair % 20 + 1;
                int i = 0;
                while (i < row.length && row[i] == m.knot) {
                    m.aDay();
                    i++;
                }
                pairs += i == row.length ? 1 : 0;
            }
            return pairs;
        }

        static long low(long v, int bits) {
            long modulus = bits == 64 ? 0 : 1L << bits;
            if (modulus == 0) return v;
            long rest = Math.floorMod(v, modulus);
            return rest >= modulus / 2 ? rest - modulus : rest;
        }

        long write(int s, int i, long v) {
            if (!in(s, 0, 3)) return tell(BEYOND);
            if (sheets[s] == null) return tell(MISSING);
            if (!in(i, 0, sheets[s].length - 1)) return tell(BEYOND);
            long was = sheets[s][i];
            sheets[s][i] = low(v, bits[s]);
            return was;
        }

        long copy(int s, int from, int t, int to, int n) {
            if (!in(s, 0, 3) || !in(t, 0, 3)) return tell(BEYOND);
            if (sheets[s] == null || sheets[t] == null) return tell(MISSING);
            if (bits[s] != bits[t]) return tell(KIND);
            boolean fits = from >= 0 && to >= 0 && n >= 0
                && (long) from + n <= sheets[s].length && (long) to + n <= sheets[t].length;
            if (!fits) return tell(BEYOND);
            long[] were = sheets[s].clone();
            for (int i = 0; i < n; i++) {
                sheets[t][to + i] = were[from + i];
            }
            return n;
        }

        int count(int what) {
            switch (what) {
                case 0: return people.size();
                case 1: return tape.size();
                case 2: return (int) people.stream().filter(p -> p[1] == 0).count();
                case 3: return people.stream().mapToInt(p -> p[3]).sum();
                default: return tell(BEYOND);
            }
        }

        int status(int which) {
            if (!in(which, -1, 6)) return tell(BEYOND);
            return which < 0 ? java.util.Arrays.stream(found).sum() : found[which];
        }
    }
}
