import java.util.ArrayList;
import java.util.Arrays;
import java.util.HashSet;
import java.util.List;
import java.util.Random;
import java.util.Set;
import java.util.TreeSet;
import java.util.regex.Matcher;
import java.util.regex.Pattern;

/** Many runs of calls by seeds, each answer held against a twin that is written as the document's words go, without care for cost. */
public final class NaiveTwin {
    private static final int RUNS = 6000;
    private static final int CALLS = 512;

    private record Arm(char kind, int one, int other) {
        int hand(int h) {
            return h == 0 ? one : other;
        }

        int reach() {
            return kind == 'l' || kind == 'k' ? 4 : kind == 's' ? 2 : 3;
        }

        boolean works(int hour, Set<Integer> dark) {
            return kind == 'w' ? !dark.contains(hour) : kind != 'n' || dark.contains(hour);
        }

        Arm with(int h, int joint) {
            return h == 0 ? new Arm(kind, joint, other) : new Arm(kind, one, joint);
        }
    }

    /** All that is told, and HOURS; never changed once made. */
    private record World(Set<Integer> fixed, List<Arm> arms, int hour, int hours, Set<Integer> dark) {
        World withArm(int a, Arm arm) {
            List<Arm> next = new ArrayList<>(arms);
            next.set(a, arm);
            return new World(fixed, next, hour, hours, dark);
        }

        World later(int n) {
            return new World(fixed, arms, (hour + n) % 24, hours + n, dark);
        }

        World turned(int joint) {
            Set<Integer> next = new TreeSet<>(fixed);
            if (!next.remove(joint)) {
                next.add(joint);
            }
            return new World(next, arms, hour, hours, dark);
        }

        World missing(int away) {
            List<Arm> next = new ArrayList<>(arms);
            next.set(away, null);
            return new World(fixed, next, hour, hours, dark);
        }

        boolean held(int joint) {
            return arms.stream().anyMatch(a -> a != null && (a.one() == joint || a.other() == joint));
        }

        /** HOURS aside. */
        boolean can(int a, int h, int joint) {
            Arm arm = arms.get(a);
            return !(arm.kind() == 'k' && h == 0) && fixed.contains(joint) && !held(joint)
                && Math.abs(joint - arm.hand(1 - h)) <= arm.reach();
        }

        boolean works(int a) {
            return arms.get(a).works(hour, dark);
        }

        boolean anyStep(int a) {
            for (int h = 0; h < 2; h++) {
                for (int j = 0; j < 12; j++) {
                    if (can(a, h, j)) {
                        return true;
                    }
                }
            }
            return false;
        }

        boolean blocked(int a) {
            return works(a) && !anyStep(a);
        }

        boolean near(int a, int joint, int apart) {
            return Math.abs(arms.get(a).one() - joint) <= apart || Math.abs(arms.get(a).other() - joint) <= apart;
        }
    }

    private static final Pattern BEAM =
        Pattern.compile("(?:(?:j\\d{1,2}|a[alswkn]\\d{1,2},\\d{1,2}|h\\d{1,2}|d\\d{1,2});)+");

    private World world = new World(new TreeSet<>(List.of(0, 1)), new ArrayList<>(), 0, 0, new TreeSet<>());
    private World kept = null;
    private String letters = "";
    private final List<Integer> row = new ArrayList<>();
    private final int[] refused = new int[7];

    private int no(int code) {
        refused[-code]++;
        return code;
    }

    private boolean arm(int a) {
        return a >= 0 && a < world.arms().size();
    }

    private static boolean joint(int j) {
        return j >= 0 && j <= 11;
    }

    private static boolean hand(int h) {
        return h == 0 || h == 1;
    }

    private int letter(int c) {
        if (c < 0) {
            return no(-4);
        }
        if (c > 255 || letters.length() == 64) {
            return no(-6);
        }
        letters += (char) c;
        return letters.length();
    }

    private int beam() {
        String text = letters;
        letters = "";
        for (int end = 1; end <= text.length(); end++) {
            Matcher m = BEAM.matcher(text.substring(0, end));
            if (!m.matches() && !m.hitEnd()) {
                return -1000 - (end - 1);
            }
        }
        if (!BEAM.matcher(text).matches()) {
            return -1000 - text.length();
        }
        World next = world;
        int place = 0;
        String[] statements = text.split(";");
        for (String statement : statements) {
            next = told(next, statement);
            if (next == null) {
                return -2000 - place;
            }
            place += statement.length() + 1;
        }
        world = next;
        return statements.length;
    }

    private static World told(World w, String statement) {
        char sort = statement.charAt(0);
        if (sort == 'a') {
            String[] two = statement.substring(2).split(",");
            Arm arm = new Arm(statement.charAt(1), Integer.parseInt(two[0]), Integer.parseInt(two[1]));
            List<Arm> next = new ArrayList<>(w.arms());
            next.add(arm);
            World made = new World(w.fixed(), next, w.hour(), w.hours(), w.dark());
            return next.size() <= 4 && stands(made) ? made : null;
        }
        int n = Integer.parseInt(statement.substring(1));
        if (sort == 'j') {
            return n > 11 || w.held(n) ? null : w.turned(n);
        }
        if (n > 23) {
            return null;
        }
        if (sort == 'h') {
            return new World(w.fixed(), w.arms(), n, w.hours(), w.dark());
        }
        Set<Integer> dark = new TreeSet<>(w.dark());
        if (!dark.add(n)) {
            dark.remove(n);
        }
        return new World(w.fixed(), w.arms(), w.hour(), w.hours(), dark);
    }

    private static boolean stands(World w) {
        Set<Integer> held = new HashSet<>();
        for (Arm a : w.arms()) {
            if (!held.add(a.one()) || !held.add(a.other()) || Math.abs(a.one() - a.other()) > a.reach()) {
                return false;
            }
        }
        return w.fixed().containsAll(held);
    }

    private int armTold(int a, int what) {
        if (!arm(a)) {
            return no(-1);
        }
        Arm it = world.arms().get(a);
        return switch (what) {
            case 0 -> "alswkn".indexOf(it.kind());
            case 1 -> it.one();
            case 2 -> it.other();
            case 3 -> it.reach();
            case 4 -> world.works(a) ? 1 : 0;
            default -> no(-2);
        };
    }

    private int jointTold(int j) {
        if (!joint(j)) {
            return no(-1);
        }
        for (int a = 0; a < world.arms().size(); a++) {
            for (int h = 0; h < 2; h++) {
                if (world.arms().get(a).hand(h) == j) {
                    return 10 * a + h;
                }
            }
        }
        return world.fixed().contains(j) ? -9 : -8;
    }

    private int step(int a, int h, int j) {
        if (!arm(a) || !hand(h) || !joint(j)) {
            return no(-1);
        }
        if (!world.works(a) || !world.can(a, h, j)) {
            return no(-3);
        }
        if (world.hours() == 9999) {
            return no(-6);
        }
        world = world.withArm(a, world.arms().get(a).with(h, j)).later(1);
        return world.hours();
    }

    private int turn(int a, int j, boolean from) {
        if (!arm(a) || !joint(j)) {
            return no(-1);
        }
        Arm it = world.arms().get(a);
        boolean beside = List.of(it.one() - 1, it.one() + 1, it.other() - 1, it.other() + 1).contains(j);
        if (!world.works(a) || !beside || world.fixed().contains(j) != from || world.held(j)) {
            return no(-3);
        }
        if (world.hours() == 9999) {
            return no(-6);
        }
        world = world.turned(j).later(1);
        return world.hours();
    }

    private int pass(int n) {
        if (n < 1) {
            return no(-4);
        }
        if (n > 99 || world.hours() + n > 9999) {
            return no(-6);
        }
        world = world.later(n);
        return world.hour();
    }

    private int may(int a, int h) {
        if (!arm(a) || !hand(h)) {
            return no(-1);
        }
        int bits = 0;
        for (int j = 0; j < 12; j++) {
            bits += world.works(a) && world.can(a, h, j) ? 1 << j : 0;
        }
        return bits;
    }

    private int blocked() {
        int bits = 0;
        for (int a = 0; a < world.arms().size(); a++) {
            bits += world.blocked(a) ? 1 << a : 0;
        }
        return bits;
    }

    private boolean isBy(int a, int b) {
        return a != b && world.missing(b).anyStep(a);
    }

    private int by(int a) {
        if (!arm(a)) {
            return no(-1);
        }
        if (!world.blocked(a)) {
            return no(-3);
        }
        int bits = 0;
        for (int b = 0; b < world.arms().size(); b++) {
            bits += isBy(a, b) ? 1 << b : 0;
        }
        return bits;
    }

    private int closedIn(int what) {
        List<Integer> pairs = new ArrayList<>();
        for (int code = 0; code < 40; code++) {
            int a = code / 10;
            int b = code % 10;
            if (a < b && arm(a) && arm(b) && world.blocked(a) && world.blocked(b) && isBy(a, b) && isBy(b, a)) {
                pairs.add(code);
            }
        }
        return what == 0 ? pairs.size() : what != 1 ? no(-2) : pairs.isEmpty() ? -9 : pairs.get(0);
    }

    /** Rings of places, each one STEP farther out than the one before. */
    private List<Set<Arm>> rings(int a) {
        List<Set<Arm>> rings = new ArrayList<>();
        Set<Arm> seen = new HashSet<>();
        Set<Arm> ring = new HashSet<>(Set.of(world.arms().get(a)));
        while (!ring.isEmpty()) {
            rings.add(ring);
            seen.addAll(ring);
            Set<Arm> next = new HashSet<>();
            for (Arm it : ring) {
                World w = world.withArm(a, it);
                for (int c = 0; c < 24; c++) {
                    if (w.can(a, c / 12, c % 12) && !seen.contains(it.with(c / 12, c % 12))) {
                        next.add(it.with(c / 12, c % 12));
                    }
                }
            }
            ring = next;
        }
        return rings;
    }

    private int fewest(int a, int j) {
        List<Set<Arm>> rings = rings(a);
        for (int n = 0; n < rings.size(); n++) {
            if (rings.get(n).stream().anyMatch(x -> x.one() == j || x.other() == j)) {
                return n;
            }
        }
        return -9;
    }

    private int way(int a, int j) {
        return !arm(a) || !joint(j) ? no(-1) : fewest(a, j);
    }

    private int come(int a) {
        if (!arm(a)) {
            return no(-1);
        }
        int bits = 0;
        for (Set<Arm> ring : rings(a)) {
            for (Arm x : ring) {
                bits |= 1 << x.one() | 1 << x.other();
            }
        }
        return bits;
    }

    private int last(int a, int one, int other) {
        if (!arm(a) || !joint(one) || !joint(other)) {
            return no(-1);
        }
        List<Set<Arm>> rings = rings(a);
        for (int n = 0; n < rings.size(); n++) {
            if (rings.get(n).contains(new Arm(world.arms().get(a).kind(), one, other))) {
                return n;
            }
        }
        return -9;
    }

    /** The fewest of all chains of different ARMS, tried one by one. */
    private int chain(int at, int to, int away, Set<Integer> used) {
        int best = world.near(at, to, 1) ? 1 : 99;
        for (int b = 0; b < world.arms().size(); b++) {
            boolean together = world.near(b, world.arms().get(at).one(), 2) || world.near(b, world.arms().get(at).other(), 2);
            if (b != away && !used.contains(b) && together) {
                Set<Integer> more = new HashSet<>(used);
                more.add(b);
                best = Math.min(best, 1 + chain(b, to, away, more));
            }
        }
        return best;
    }

    private int fewestArms(int from, int to, int away) {
        if (from == to) {
            return 0;
        }
        int best = 99;
        for (int a = 0; a < world.arms().size(); a++) {
            if (a != away && world.near(a, from, 1)) {
                best = Math.min(best, chain(a, to, away, Set.of(a)));
            }
        }
        return best > 4 ? -9 : best;
    }

    private int handing(int from, int to) {
        return !joint(from) || !joint(to) ? no(-1) : fewestArms(from, to, -1);
    }

    private int without(int from, int to, int a) {
        return !joint(from) || !joint(to) || !arm(a) ? no(-1) : fewestArms(from, to, a) >= 0 ? 1 : 0;
    }

    private int falls(int joint) {
        if (!joint(joint)) {
            return no(-1);
        }
        if (!world.fixed().contains(joint)) {
            return no(-3);
        }
        int bits = 0;
        for (int j : world.fixed()) {
            boolean hangs = true;
            for (int k = 0; k <= j; k++) {
                hangs = hangs && k != joint && world.fixed().contains(k);
            }
            bits += j != joint && !hangs ? 1 << j : 0;
        }
        return bits;
    }

    private int row(int v) {
        if (v < 0) {
            return no(-4);
        }
        if (v > 3111 || row.size() == 16) {
            return no(-6);
        }
        row.add(v);
        return row.size();
    }

    private static List<Integer> places(World w) {
        List<Integer> hands = new ArrayList<>();
        for (Arm a : w.arms()) {
            hands.addAll(List.of(a.one(), a.other()));
        }
        return hands;
    }

    /** All STEPS that can be made, made one by one, and those kept behind which all stand so. */
    private static List<Integer> leading(World from, List<Integer> there) {
        List<Integer> steps = new ArrayList<>();
        for (int a = 0; a < from.arms().size(); a++) {
            for (int h = 0; h < 2; h++) {
                for (int j = 0; j < 12; j++) {
                    if (from.can(a, h, j) && places(from.withArm(a, from.arms().get(a).with(h, j))).equals(there)) {
                        steps.add(1000 * a + 100 * h + j);
                    }
                }
            }
        }
        return steps;
    }

    private int stood(int what) {
        if (what < 0 || what > 1) {
            return no(-2);
        }
        if (row.size() != 2 * world.arms().size()) {
            return no(-3);
        }
        List<Integer> steps = leading(world, row);
        return what == 0 ? steps.size() : steps.isEmpty() ? -9 : steps.get(0);
    }

    private int back() {
        if (row.size() != 2 * world.arms().size()) {
            return no(-3);
        }
        World there = world;
        for (int a = 0; a < world.arms().size(); a++) {
            there = there.withArm(a, new Arm(world.arms().get(a).kind(), row.get(2 * a), row.get(2 * a + 1)));
        }
        return stands(there) ? leading(there, places(world)).size() : no(-3);
    }

    private int judge() {
        World w = world;
        int answer = -9;
        for (int i = 0; i < row.size() && answer == -9; i++) {
            int a = row.get(i) / 1000;
            int h = row.get(i) / 100 % 10;
            int j = row.get(i) % 100;
            if (arm(a) && hand(h) && joint(j) && w.works(a) && w.can(a, h, j)) {
                w = w.withArm(a, w.arms().get(a).with(h, j)).later(1);
            } else {
                answer = i;
            }
        }
        row.clear();
        return answer;
    }

    private int clear() {
        int had = row.size();
        row.clear();
        return had;
    }

    private int rest(int a) {
        if (!arm(a)) {
            return no(-1);
        }
        for (int n = 0; n < 24; n++) {
            if (world.later(n).works(a)) {
                return n;
            }
        }
        return -9;
    }

    private int seeds(int n, int z) {
        if (n < 1) {
            return no(-4);
        }
        if (n > 60) {
            return no(-6);
        }
        if (world.arms().isEmpty()) {
            return no(-3);
        }
        World w = world;
        int could = 0;
        int[] drawn = new int[3];
        int[] below = {w.arms().size(), 2, 12};
        for (int i = 0; i < n; i++) {
            for (int d = 0; d < 3; d++) {
                z = z * 1664525 + 1013904223;
                drawn[d] = (z & 0x7fffffff) / 256 % below[d];
            }
            if (w.works(drawn[0]) && w.can(drawn[0], drawn[1], drawn[2])) {
                could++;
                w = w.withArm(drawn[0], w.arms().get(drawn[0]).with(drawn[1], drawn[2]));
            }
            w = w.later(1);
        }
        return could;
    }

    private int image() {
        kept = world;
        return world.hours();
    }

    private int on() {
        if (kept == null) {
            return no(-3);
        }
        world = kept;
        return world.hours();
    }

    private int count(int what) {
        return switch (what) {
            case 0 -> world.arms().size();
            case 1 -> world.fixed().size();
            case 2 -> world.hour();
            case 3 -> world.hours();
            case 4 -> 24 - world.dark().size();
            case 5 -> row.size();
            case 6 -> letters.length();
            default -> what > 10 && what < 17 ? refused[what - 10] : -9;
        };
    }

    private static final String[] CALL = {"letter", "beam", "arm", "joint", "step", "fix", "unfix", "pass", "may",
        "blocked", "by", "closedIn", "way", "come", "last", "handing", "without", "falls", "row", "stood", "back",
        "judge", "clear", "rest", "seeds", "image", "on", "count"};

    private int answer(int call, int[] v) {
        return switch (call) {
            case 0 -> letter(v[0]);
            case 1 -> beam();
            case 2 -> armTold(v[0], v[1]);
            case 3 -> jointTold(v[0]);
            case 4 -> step(v[0], v[1], v[2]);
            case 5 -> turn(v[0], v[1], false);
            case 6 -> turn(v[0], v[1], true);
            case 7 -> pass(v[0]);
            case 8 -> may(v[0], v[1]);
            case 9 -> blocked();
            case 10 -> by(v[0]);
            case 11 -> closedIn(v[0]);
            case 12 -> way(v[0], v[1]);
            case 13 -> come(v[0]);
            case 14 -> last(v[0], v[1], v[2]);
            case 15 -> handing(v[0], v[1]);
            case 16 -> without(v[0], v[1], v[2]);
            case 17 -> falls(v[0]);
            case 18 -> row(v[0]);
            case 19 -> stood(v[0]);
            case 20 -> back();
            case 21 -> judge();
            case 22 -> clear();
            case 23 -> rest(v[0]);
            case 24 -> seeds(v[0], v[1]);
            case 25 -> image();
            case 26 -> on();
            default -> count(v[0]);
        };
    }

    private static int answer(ArmsAlongBeam x, int call, int[] v) {
        return switch (call) {
            case 0 -> x.letter(v[0]);
            case 1 -> x.beam();
            case 2 -> x.arm(v[0], v[1]);
            case 3 -> x.joint(v[0]);
            case 4 -> x.step(v[0], v[1], v[2]);
            case 5 -> x.fix(v[0], v[1]);
            case 6 -> x.unfix(v[0], v[1]);
            case 7 -> x.pass(v[0]);
            case 8 -> x.may(v[0], v[1]);
            case 9 -> x.blocked();
            case 10 -> x.by(v[0]);
            case 11 -> x.closedIn(v[0]);
            case 12 -> x.way(v[0], v[1]);
            case 13 -> x.come(v[0]);
            case 14 -> x.last(v[0], v[1], v[2]);
            case 15 -> x.handing(v[0], v[1]);
            case 16 -> x.without(v[0], v[1], v[2]);
            case 17 -> x.falls(v[0]);
            case 18 -> x.row(v[0]);
            case 19 -> x.stood(v[0]);
            case 20 -> x.back();
            case 21 -> x.judge();
            case 22 -> x.clear();
            case 23 -> x.rest(v[0]);
            case 24 -> x.seeds(v[0], v[1]);
            case 25 -> x.image();
            case 26 -> x.on();
            default -> x.count(v[0]);
        };
    }

    // The runs.

    private final ArmsAlongBeam held = new ArmsAlongBeam();
    private final List<String> said = new ArrayList<>();
    private static int wrong = 0;
    private static final int[] good = new int[CALL.length];

    private void ask(int call, int... v) {
        if (said.size() == CALLS || wrong > 0) {
            return;
        }
        int[] three = Arrays.copyOf(v, 3);
        int want = answer(call, three);
        int got = answer(held, call, three);
        good[call] += want >= 0 ? 1 : 0;
        said.add(CALL[call] + Arrays.toString(v) + " = " + got);
        if (got != want) {
            wrong++;
            System.out.println(String.join("\n", said));
            System.out.println("the last: due is " + want);
        }
    }

    private void tell(String text) {
        for (int i = 0; i < text.length(); i++) {
            ask(0, text.charAt(i));
        }
        ask(1);
    }

    private static String number(Random r, int below) {
        int n = r.nextInt(30) == 0 ? r.nextInt(100) : r.nextInt(below);
        return r.nextInt(4) == 0 && n < 10 ? "0" + n : "" + n;
    }

    private static String statement(Random r) {
        int sort = r.nextInt(10);
        if (sort < 4) {
            return "j" + number(r, 12) + ";";
        }
        if (sort < 8) {
            int one = r.nextInt(12);
            int other = Math.max(0, Math.min(11, one + r.nextInt(9) - 4));
            return "a" + "alswkn".charAt(r.nextInt(6)) + one + "," + other + ";";
        }
        return (sort == 8 ? "h" : "d") + number(r, 24) + ";";
    }

    private static String spoiled(Random r, String text) {
        String odd = "jahd;,0123456789alswknx ";
        int place = r.nextInt(text.length() + 1);
        String sign = "" + odd.charAt(r.nextInt(odd.length()));
        int cut = Math.min(text.length(), place + r.nextInt(3));
        return r.nextInt(3) == 0 ? text.substring(0, place) : text.substring(0, place) + sign + text.substring(cut);
    }

    private void tellSome(Random r) {
        StringBuilder text = new StringBuilder();
        for (int many = 1 + r.nextInt(4); many > 0; many--) {
            text.append(statement(r));
        }
        tell(r.nextInt(3) == 0 ? spoiled(r, text.toString()) : text.toString());
    }

    private static int odd(Random r, int below) {
        int[] far = {-1, below, below + 1, Integer.MIN_VALUE, Integer.MAX_VALUE, -9, 31, 32, 100};
        return r.nextInt(25) == 0 ? far[r.nextInt(far.length)] : r.nextInt(below);
    }

    private void tellRow(Random r) {
        ask(22);
        if (r.nextInt(2) == 0) {
            List<Integer> hands = places(world);
            for (int changes = r.nextInt(3); changes > 0 && !hands.isEmpty(); changes--) {
                hands.set(r.nextInt(hands.size()), r.nextInt(13));
            }
            hands.forEach(v -> ask(18, v));
            ask(19, 0);
            ask(19, 1);
            ask(20);
        } else {
            World w = world;
            for (int many = r.nextInt(16); many > 0 && !w.arms().isEmpty(); many--) {
                int a = r.nextInt(w.arms().size());
                int h = r.nextInt(2);
                int j = r.nextInt(12);
                for (int tries = 0; tries < 40 && !(w.works(a) && w.can(a, h, j)); tries++) {
                    a = r.nextInt(w.arms().size());
                    h = r.nextInt(2);
                    j = r.nextInt(12);
                }
                w = w.withArm(a, w.arms().get(a).with(h, j)).later(1);
                ask(18, 1000 * a + 100 * h + j);
            }
            ask(21);
        }
    }

    private void some(Random r) {
        int arms = Math.max(1, world.arms().size());
        int call = r.nextInt(CALL.length + 6);
        switch (call) {
            case 0 -> ask(0, odd(r, 256));
            case 2 -> ask(2, odd(r, arms), odd(r, 5));
            case 3, 17 -> ask(call, odd(r, 12));
            case 4, 28, 29, 30 -> ask(4, odd(r, arms), odd(r, 2), odd(r, 12));
            case 5, 6, 12 -> ask(call, odd(r, arms), odd(r, 12));
            case 7 -> ask(7, r.nextInt(20) == 0 ? odd(r, 100) : 1 + r.nextInt(3));
            case 8 -> ask(8, odd(r, arms), odd(r, 2));
            case 10, 13, 23 -> ask(call, odd(r, arms));
            case 9 -> {
                ask(9);
                for (int a = 0; a < arms; a++) {
                    ask(10, a);
                }
            }
            case 11, 19 -> ask(call, odd(r, 2));
            case 14 -> ask(14, odd(r, arms), odd(r, 12), odd(r, 12));
            case 15 -> ask(15, odd(r, 12), odd(r, 12));
            case 16 -> ask(16, odd(r, 12), odd(r, 12), odd(r, arms));
            case 18 -> ask(18, odd(r, 3112));
            case 24 -> ask(24, 1 + odd(r, 60), r.nextInt());
            case 27 -> ask(27, odd(r, 17));
            case 31 -> tellSome(r);
            case 32, 33 -> tellRow(r);
            default -> ask(call);
        }
    }

    private void run(int seed) {
        Random r = new Random(seed);
        StringBuilder text = new StringBuilder();
        for (int j = 2; j < 12; j++) {
            text.append(r.nextInt(4) != 0 ? "j" + j + ";" : "");
        }
        tell(text.toString());
        for (int many = r.nextInt(12); many > 0; many--) {
            tell(statement(r));
        }
        int late = seed % 10 == 0 ? 100 : 0;
        for (int i = 0; i < late; i++) {
            ask(7, 99);
        }
        ask(7, 90 + r.nextInt(10));
        while (said.size() < CALLS && wrong == 0) {
            some(r);
        }
    }

    public static void main(String[] args) {
        for (int seed = 0; seed < RUNS && wrong == 0; seed++) {
            new NaiveTwin().run(seed);
        }
        for (int call = 0; call < CALL.length; call++) {
            if (good[call] < 1000) {
                wrong++;
                System.out.println(CALL[call] + " was hardly ever answered well: " + good[call]);
            }
        }
        System.out.println(wrong == 0 ? "twin: all answers are as due" : "twin: answers are not as due");
        if (wrong != 0) {
            System.exit(1);
        }
    }
}
