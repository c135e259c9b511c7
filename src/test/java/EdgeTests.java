import java.util.ArrayList;
import java.util.List;
import java.util.function.Supplier;
import java.util.function.ToIntFunction;

/** Each sentence of the document that names a boundary case has a test of its own here, under the sentence's own words. */
public final class EdgeTests {
    private static final String ALL = "j2;j3;j4;j5;j6;j7;j8;j9;j10;j11;";
    private static final int LEAST = Integer.MIN_VALUE;
    private static final int GREATEST = Integer.MAX_VALUE;
    private static final int EVERY = 0b111111111111;

    private static int wrong = 0;
    private static int sentences = 0;
    private static String words = "";

    // How a test is told.

    private static void sentence(String told, Runnable test) {
        sentences++;
        words = told;
        test.run();
    }

    private static void due(String call, long got, long want) {
        if (got != want) {
            wrong++;
            System.out.println("\"" + words + "\": " + call + " answered " + got + ", due is " + want);
        }
    }

    private static void letters(ArmsAlongBeam x, String text) {
        int before = x.count(6);
        for (int i = 0; i < text.length(); i++) {
            due("letter '" + text.charAt(i) + "' of " + text, x.letter(text.charAt(i)), before + i + 1);
        }
    }

    private static int tell(ArmsAlongBeam x, String text) {
        letters(x, text);
        return x.beam();
    }

    private static ArmsAlongBeam made(String... texts) {
        ArmsAlongBeam x = new ArmsAlongBeam();
        for (String text : texts) {
            int statements = text.length() - text.replace(";", "").length();
            due("beam of " + text, tell(x, text), statements);
        }
        return x;
    }

    private static void row(ArmsAlongBeam x, int... numbers) {
        x.clear();
        for (int i = 0; i < numbers.length; i++) {
            due("row(" + numbers[i] + ")", x.row(numbers[i]), i + 1);
        }
    }

    private static int judged(ArmsAlongBeam x, int... steps) {
        row(x, steps);
        return x.judge();
    }

    /** An object with something in each of its corners: three ARMS, dark HOURS, a ROW, letters, an IMAGE, one REFUSAL of each. */
    private static ArmsAlongBeam rich() {
        ArmsAlongBeam x = made("j2;j3;j4;j5;j6;j7;j8;j9;aa0,1;", "aw4,5;ak7,8;d0;d5;h3;");
        x.image();
        due("pass(1)", x.pass(1), 4);
        due("step(0, 1, 2)", x.step(0, 1, 2), 2);
        due("step(0, 0, 0)", x.step(0, 0, 0), -3);
        row(x, 3, 2, 4, 5, 7, 8);
        letters(x, "j10;h9;");
        x.joint(12);
        x.arm(0, 9);
        x.pass(0);
        x.pass(100);
        return x;
    }

    private static ArmsAlongBeam late(ArmsAlongBeam x, int hours) {
        while (x.count(3) + 99 <= hours) {
            x.pass(99);
        }
        if (x.count(3) < hours) {
            x.pass(hours - x.count(3));
        }
        due("count(3)", x.count(3), hours);
        return x;
    }

    private static ArmsAlongBeam fullRow() {
        ArmsAlongBeam x = rich();
        for (int many = 7; many <= 16; many++) {
            due("row(102)", x.row(102), many);
        }
        return x;
    }

    private static ArmsAlongBeam fullOfLetters() {
        ArmsAlongBeam x = rich();
        letters(x, "j10;j10;j10;j10;j10;j10;j10;j10;j10;j10;j10;j10;h1;h2;h3;");
        due("count(6)", x.count(6), 64);
        return x;
    }

    private static ArmsAlongBeam allFixed() {
        return made(ALL, "aa5,6;");
    }

    /** How all stands: all that is told, and HOURS. */
    private static List<String> stands(ArmsAlongBeam x) {
        List<String> all = new ArrayList<>();
        for (int what = 0; what < 5; what++) {
            all.add("count(" + what + ") = " + x.count(what));
        }
        for (int joint = 0; joint < 12; joint++) {
            all.add("joint(" + joint + ") = " + x.joint(joint));
        }
        for (int arm = 0; arm < x.count(0); arm++) {
            all.add("arm(" + arm + ", 0) = " + x.arm(arm, 0));
            all.add("arm(" + arm + ", 1) = " + x.arm(arm, 1));
            all.add("arm(" + arm + ", 2) = " + x.arm(arm, 2));
            all.add("rest(" + arm + ") = " + x.rest(arm));
        }
        return all;
    }

    /** All that can be seen of an object; its ROW, its letters and how it stands are used up by the look. */
    private static List<String> looks(ArmsAlongBeam x) {
        List<String> all = stands(x);
        all.add("count(5) = " + x.count(5));
        all.add("count(6) = " + x.count(6));
        all.add("stood(0) = " + x.stood(0));
        all.add("stood(1) = " + x.stood(1));
        all.add("back() = " + x.back());
        all.add("seeds(60, 5) = " + x.seeds(60, 5));
        all.add("judge() = " + x.judge());
        all.add("beam() = " + x.beam());
        all.addAll(stands(x));
        all.add("on() = " + x.on());
        all.addAll(stands(x));
        return all;
    }

    /** Of two objects made alike one is asked; behind that they are alike in all but the count of that REFUSAL. */
    private static void alike(Supplier<ArmsAlongBeam> maker, String call, ToIntFunction<ArmsAlongBeam> asks, int want, int refusal) {
        ArmsAlongBeam asked = maker.get();
        ArmsAlongBeam other = maker.get();
        due(call, asks.applyAsInt(asked), want);
        for (int what = 11; what <= 16; what++) {
            int more = what == 10 - refusal ? 1 : 0;
            due("count(" + what + ") behind " + call, asked.count(what), other.count(what) + more);
        }
        List<String> got = looks(asked);
        List<String> due = looks(other);
        if (!got.equals(due)) {
            wrong++;
            System.out.println("\"" + words + "\": behind " + call + " it is " + got + ", due is " + due);
        }
    }

    /** A REFUSAL: the answer, and nothing changes but how many there were. */
    private static void refused(Supplier<ArmsAlongBeam> maker, int want, String call, ToIntFunction<ArmsAlongBeam> asks) {
        alike(maker, call, asks, want, want);
    }

    /** A call that changes nothing and is no REFUSAL. */
    private static void asked(Supplier<ArmsAlongBeam> maker, int want, String call, ToIntFunction<ArmsAlongBeam> asks) {
        alike(maker, call, asks, want, 0);
    }

    /** The FAULT is no REFUSAL, the letters are no more, and nothing of the text comes. */
    private static void fault(Supplier<ArmsAlongBeam> maker, int want, String text) {
        asked(maker, want, "beam of " + text, x -> tell(x, text));
    }

    private static void fault(int want, String text) {
        fault(() -> made("j2;j3;aa0,1;d7;h6;"), want, text);
    }

    private static void good(String... texts) {
        made(texts);
    }

    // "Terms": JOINTS, ARMS, HOURS.

    private static void joints() {
        sentence("JOINTS 0 .. 11 in a row", () -> {
            ArmsAlongBeam x = allFixed();
            due("joint(0)", x.joint(0), -9);
            due("joint(11)", x.joint(11), -9);
            due("joint(-1)", x.joint(-1), -1);
            due("joint(12)", x.joint(12), -1);
            due("count(1)", x.count(1), 12);
        });
        sentence("in a row: its ends are not beside one another", () -> {
            ArmsAlongBeam x = made("j10;as0,1;", "j11;as10,11;");
            due("unfix(0, 11)", x.unfix(0, 11), -3);
            due("may(0, 0)", x.may(0, 0), 0);
            due("may(1, 0)", x.may(1, 0), 0);
            due("handing(11, 0)", x.handing(11, 0), -9);
            due("falls(1)", x.falls(1), 1 << 10 | 1 << 11);
            due("fix(0, 11)", made("as0,1;").fix(0, 11), -3);
            due("fix(0, 0)", made("j10;j11;as10,11;j0;").fix(0, 0), -3);
        });
        sentence("FIXED or not (0 and 1 are at first)", () -> {
            ArmsAlongBeam x = new ArmsAlongBeam();
            due("joint(0)", x.joint(0), -9);
            due("joint(1)", x.joint(1), -9);
            due("joint(2)", x.joint(2), -8);
            due("joint(11)", x.joint(11), -8);
            due("count(1)", x.count(1), 2);
        });
        sentence("none FIXED any more", () -> {
            ArmsAlongBeam x = made("j0;j1;");
            due("count(1)", x.count(1), 0);
            due("joint(0)", x.joint(0), -8);
            due("falls(0)", x.falls(0), -3);
            due("beam of aa0,1;", tell(x, "aa0,1;"), -2000);
        });
    }

    private static void arms() {
        sentence("ARMS 0 .. 3 as they come (4 at most)", () -> {
            ArmsAlongBeam x = made(ALL);
            String[] each = {"as9,8;", "aa0,1;", "al2,5;", "aw4,3;"};
            int[] kinds = {2, 0, 1, 3};
            for (int many = 0; many < 4; many++) {
                due("count(0)", x.count(0), many);
                due("arm(" + many + ", 0) of " + many, x.arm(many, 0), -1);
                due("beam of " + each[many], tell(x, each[many]), 1);
                due("arm(" + many + ", 0)", x.arm(many, 0), kinds[many]);
            }
            due("arm(4, 0)", x.arm(4, 0), -1);
            due("arm(-1, 0)", x.arm(-1, 0), -1);
            due("beam with a fifth", tell(x, "as10,11;"), -2000);
            due("count(0)", x.count(0), 4);
            due("joint(10)", x.joint(10), -9);
            due("arm(0, 1)", x.arm(0, 1), 9);
            due("arm(3, 2)", x.arm(3, 2), 3);
        });
        sentence("two HANDS (0 and 1)", () -> {
            due("step(0, 0, 3)", allFixed().step(0, 0, 3), 1);
            due("step(0, 1, 2)", allFixed().step(0, 1, 2), 1);
            refused(EdgeTests::allFixed, -1, "step(0, -1, 3)", x -> x.step(0, -1, 3));
            refused(EdgeTests::allFixed, -1, "step(0, 2, 3)", x -> x.step(0, 2, 3));
        });
        sentence("each on a FIXED JOINT, never two HANDS on one", () -> {
            Supplier<ArmsAlongBeam> two = () -> made("j2;j4;as0,1;as2,4;");
            refused(two, -3, "onto itself", x -> x.step(0, 0, 0));
            refused(two, -3, "onto its other", x -> x.step(0, 0, 1));
            refused(two, -3, "onto another's HAND 0", x -> x.step(0, 0, 2));
            refused(two, -3, "onto another's HAND 1", x -> x.step(0, 1, 4));
            refused(two, -3, "not FIXED", x -> x.step(0, 0, 3));
            due("FIXED, no HAND", made("j2;j3;j4;as0,1;as2,4;").step(0, 0, 3), 1);
        });
    }

    private static void hours() {
        sentence("HOUR (0 .. 23: 0 at first)", () -> {
            ArmsAlongBeam x = new ArmsAlongBeam();
            due("count(2)", x.count(2), 0);
            due("pass(23)", x.pass(23), 23);
            due("pass(1)", x.pass(1), 0);
            due("pass(24)", x.pass(24), 0);
            due("pass(25)", x.pass(25), 1);
        });
        sentence("HOURS gone by (0 at first)", () -> {
            ArmsAlongBeam x = new ArmsAlongBeam();
            due("count(3)", x.count(3), 0);
            due("pass(25)", x.pass(25), 1);
            due("count(3)", x.count(3), 25);
            due("beam of h7;", tell(x, "h7;"), 1);
            due("count(3) behind h", x.count(3), 25);
        });
        sentence("LIGHT: HOURS (bits 0 .. 23; all at first)", () -> {
            ArmsAlongBeam x = made("aw0,1;");
            due("count(4)", x.count(4), 24);
            worksBut(x);
            due("beam of d0;d23;", tell(x, "d0;d23;"), 2);
            due("count(4)", x.count(4), 22);
            worksBut(x, 0, 23);
        });
        sentence("no LIGHT any more", () -> {
            ArmsAlongBeam x = allDark("w");
            due("count(4)", x.count(4), 0);
            for (int hour = 0; hour < 24; hour++) {
                due("arm(0, 4) in HOUR " + x.count(2), x.arm(0, 4), 0);
                x.pass(1);
            }
        });
    }

    private static ArmsAlongBeam allDark(String kind) {
        String one = "d0;d1;d2;d3;d4;d5;d6;d7;d8;d9;d10;d11;";
        String other = "d12;d13;d14;d15;d16;d17;d18;d19;d20;d21;d22;d23;";
        return made(one, other, "a" + kind + "0,1;");
    }

    private static void worksBut(ArmsAlongBeam x, int... dark) {
        for (int hour = 0; hour < 24; hour++) {
            int works = 1;
            for (int each : dark) {
                works = each == hour ? 0 : works;
            }
            due("count(2)", x.count(2), hour);
            due("arm(0, 4) in HOUR " + hour, x.arm(0, 4), works);
            x.pass(1);
        }
    }

    // "Terms": the letters of a BEAM.

    private static void statements() {
        String sixtyThree = "j3;j3;j3;j3;j3;j3;j3;j3;j3;j3;j3;j3;j3;j3;j3;j3;j3;j3;j3;j3;j3;";
        sentence("A BEAM is told in letters, one by one (64 at most)", () -> {
            ArmsAlongBeam x = made(sixtyThree);
            due("joint(3)", x.joint(3), -9);
            letters(x, sixtyThree.substring(0, 60) + "j03;");
            due("a letter more", x.letter('j'), -6);
            due("beam() of 64", x.beam(), 21);
            due("joint(3)", x.joint(3), -8);
            due("a letter behind it", x.letter('j'), 1);
        });
        sentence("\"j\" a JOINT (1 or 2 digits)", () -> {
            due("joint(9)", made("j9;").joint(9), -9);
            due("joint(10)", made("j10;").joint(10), -9);
            due("joint(11)", made("j11;").joint(11), -9);
            fault(-1001, "j;");
            fault(-1003, "j110;");
            fault(-1003, "j011;");
        });
        sentence("it is FIXED (told again: not any more)", () -> {
            due("once", made("j5;").joint(5), -9);
            due("twice", made("j5;j5;").joint(5), -8);
            due("three times", made("j5;j5;j5;").joint(5), -9);
            due("one of the first", made("j1;").joint(1), -8);
            due("in another BEAM", made("j5;", "j5;").joint(5), -8);
        });
        sentence("\"a\" a letter of a KIND, a JOINT, \",\", a JOINT (1 or 2 digits each)", () -> {
            ArmsAlongBeam x = made("j9;j10;j11;aa9,10;aa1,0;");
            due("arm(0, 1)", x.arm(0, 1), 9);
            due("arm(0, 2)", x.arm(0, 2), 10);
            due("arm(1, 1)", x.arm(1, 1), 1);
            due("arm(1, 2)", x.arm(1, 2), 0);
            fault(-1001, "a0,1;");
            fault(-1002, "aa,1;");
            fault(-1003, "aa0;");
            fault(-1004, "aa000,1;");
            fault(-1004, "aa0,;");
            fault(-1006, "aa0,001;");
        });
        sentence("\"h\" an HOUR (1 or 2 digits): HOUR", () -> {
            due("h0", made("h5;h0;").count(2), 0);
            due("h9", made("h9;").count(2), 9);
            due("h10", made("h10;").count(2), 10);
            due("h23", made("h23;").count(2), 23);
            fault(-1001, "h;");
            fault(-1003, "h023;");
        });
        sentence("\"d\" an HOUR (1 or 2 digits): it is dark (told again: LIGHT)", () -> {
            due("once", made("d0;an0,1;").arm(0, 4), 1);
            due("twice", made("d0;d0;an0,1;").arm(0, 4), 0);
            due("three times", made("d0;d0;d0;an0,1;").arm(0, 4), 1);
            due("in another BEAM", made("d0;an0,1;", "d0;").arm(0, 4), 0);
            due("the last HOUR", made("d23;h23;an0,1;").arm(0, 4), 1);
            fault(-1001, "d;");
            fault(-1003, "d000;");
        });
        sentence("Numbers may begin with 0", () -> {
            ArmsAlongBeam x = made("j02;j00;j00;h09;d09;aw00,02;");
            due("joint(2)", x.joint(2), 1);
            due("joint(0)", x.joint(0), 0);
            due("count(2)", x.count(2), 9);
            due("arm(0, 4)", x.arm(0, 4), 0);
        });
        sentence("At least one STATEMENT", () -> {
            fault(-1000, "");
            fault(-1000, ";");
            due("one", tell(new ArmsAlongBeam(), "h0;"), 1);
        });
    }

    private static void faultsOfForm() {
        sentence("kind 1 the place of the first letter with which no BEAM can go on: -1000 less the place", () -> {
            fault(-1000, "x");
            fault(-1000, "J2;");
            fault(-1000, "0;");
            fault(-1000, "\0");
            fault(-1000, "\u00ff");
            fault(-1003, "j2;;");
            fault(-1003, "j2;x;y;");
            fault(-1001, "ax0,1;");
            fault(-1001, "aA0,1;");
            fault(-1001, "aj0,1;");
            fault(-1001, "j/;");
            fault(-1001, "j:;");
            fault(-1002, "j0/;");
            fault(-1002, "j0:;");
            fault(-1002, "j2,3;");
            fault(-1002, "j2:");
            fault(-1003, "aa0.1;");
            fault(-1003, "aa0-1;");
            fault(-1005, "aa0,1,");
            fault(-1063, "j3;j3;j3;j3;j3;j3;j3;j3;j3;j3;j3;j3;j3;j3;j3;j3;j3;j3;j3;j3;j3;x");
        });
        sentence("(the end, if something lacks)", () -> {
            fault(-1001, "j");
            fault(-1002, "j3");
            fault(-1003, "j03");
            fault(-1001, "h");
            fault(-1002, "h3");
            fault(-1003, "h03");
            fault(-1001, "d");
            fault(-1002, "d3");
            fault(-1003, "d03");
            fault(-1001, "a");
            fault(-1002, "aa");
            fault(-1003, "aa0");
            fault(-1004, "aa00");
            fault(-1004, "aa0,");
            fault(-1005, "aa0,1");
            fault(-1006, "aa0,01");
            fault(-1004, "j3;j");
            fault(-1064, "j3;j3;j3;j3;j3;j3;j3;j3;j3;j3;j3;j3;j3;j3;j3;j3;j3;j3;j3;j3;aa0,");
        });
        sentence("else kind 2: kind 1 goes before it, though it be behind it in the text", () -> {
            fault(-1004, "j99;x");
            fault(-1007, "h24;j12");
            fault(-1013, "aa0,0;aa0,9;j");
        });
    }

    private static void faultsOfSense() {
        Supplier<ArmsAlongBeam> fresh = ArmsAlongBeam::new;
        sentence("the place of the first letter of the first STATEMENT: -2000 less the place", () -> {
            fault(fresh, -2000, "j12;");
            fault(fresh, -2003, "j4;h24;d24;");
            fault(fresh, -2003, "j4;aa00,99;j12;");
            fault(fresh, -2060, "j4;j4;j4;j4;j4;j4;j4;j4;j4;j4;j4;j4;j4;j4;j4;j4;j4;j4;j4;j4;j12;");
        });
        sentence("that, behind all ahead of it in the text, is not as it must be", () -> {
            due("good by what is ahead", tell(new ArmsAlongBeam(), "j2;j3;as2,3;"), 3);
            due("good by what is ahead", tell(new ArmsAlongBeam(), "j2;j2;j2;as0,2;"), 4);
            fault(fresh, -2003, "j2;as2,3;j3;");
            fault(fresh, -2003, "j1;as0,1;j1;");
            fault(fresh, -2006, "j2;j2;as0,2;");
        });
        sentence("a number out of range: a JOINT", () -> {
            Supplier<ArmsAlongBeam> end = () -> made("j10;j11;");
            due("j0;", tell(end.get(), "j0;"), 1);
            due("j11;", tell(end.get(), "j11;"), 1);
            due("aa10,11;", tell(end.get(), "aa10,11;"), 1);
            due("aa11,10;", tell(end.get(), "aa11,10;"), 1);
            fault(end, -2000, "j12;");
            fault(end, -2000, "j99;");
            fault(end, -2000, "aa11,12;");
            fault(end, -2000, "aa12,11;");
            fault(end, -2000, "aa99,98;");
        });
        sentence("a number out of range: an HOUR", () -> {
            due("h23;", tell(new ArmsAlongBeam(), "h23;"), 1);
            due("d23;", tell(new ArmsAlongBeam(), "d23;"), 1);
            fault(fresh, -2000, "h24;");
            fault(fresh, -2000, "h99;");
            fault(fresh, -2000, "d24;");
            fault(fresh, -2000, "d32;");
            fault(fresh, -2000, "d99;");
        });
        sentence("a HAND on what is not FIXED", () -> {
            due("aa0,1;", tell(new ArmsAlongBeam(), "aa0,1;"), 1);
            fault(fresh, -2000, "aa0,2;");
            fault(fresh, -2000, "aa2,0;");
            fault(fresh, -2000, "aa2,3;");
        });
        sentence("a HAND on a JOINT with a HAND", () -> {
            Supplier<ArmsAlongBeam> one = () -> made("j2;j3;j4;j5;as2,3;");
            due("as4,5;", tell(one.get(), "as4,5;"), 1);
            fault(one, -2000, "as2,4;");
            fault(one, -2000, "as1,2;");
            fault(one, -2000, "as3,4;");
            fault(one, -2000, "as1,3;");
            fault(one, -2000, "as4,4;");
            fault(one, -2006, "as4,5;al1,5;");
        });
        sentence("a JOINT with a HAND that would not be FIXED any more", () -> {
            Supplier<ArmsAlongBeam> one = () -> made("j2;as0,2;");
            due("j1;", tell(one.get(), "j1;"), 1);
            fault(one, -2000, "j0;");
            fault(one, -2000, "j2;");
            fault(fresh, -2006, "aa0,1;j1;j1;");
        });
        sentence("no room", () -> {
            Supplier<ArmsAlongBeam> three = () -> made(ALL, "as0,1;as2,3;as4,5;");
            Supplier<ArmsAlongBeam> four = () -> made(ALL, "as0,1;as2,3;as4,5;as6,7;");
            due("a fourth", tell(three.get(), "as6,7;"), 1);
            fault(four, -2000, "as8,9;");
            fault(three, -2006, "as6,7;as8,9;");
            fault(() -> made(ALL), -2024, "as0,1;as2,3;as4,5;as6,7;as8,9;");
        });
        sentence("Without FAULT all of it comes", () -> {
            ArmsAlongBeam x = made("j2;j3;as2,3;h5;d6;j0;");
            due("joint(2)", x.joint(2), 0);
            due("joint(3)", x.joint(3), 1);
            due("joint(0)", x.joint(0), -8);
            due("count(2)", x.count(2), 5);
            due("count(4)", x.count(4), 23);
        });
        sentence("with one nothing", () -> {
            fault(fresh, -2024, "j2;j3;as2,3;h5;d6;j0;j1;j12;");
            fault(fresh, -1024, "j2;j3;as2,3;h5;d6;j0;j1;x");
        });
    }

    private static void kinds() {
        String letters = "alswkn";
        int[] reaches = {3, 4, 2, 3, 4, 3};
        for (int i = 0; i < 6; i++) {
            int kind = i;
            int reach = reaches[i];
            String letter = letters.substring(i, i + 1);
            sentence("REACH (how many JOINTS its HANDS can be apart): " + letter + " " + reach + ", as it comes", () -> {
                Supplier<ArmsAlongBeam> all = () -> made(ALL);
                due("up", tell(all.get(), "a" + letter + "3," + (3 + reach) + ";"), 1);
                due("down", tell(all.get(), "a" + letter + "8," + (8 - reach) + ";"), 1);
                fault(all, -2000, "a" + letter + "3," + (4 + reach) + ";");
                fault(all, -2000, "a" + letter + "8," + (7 - reach) + ";");
            });
            sentence("no farther than REACH from its other HAND: " + letter + " " + reach + ", by STEPS", () -> {
                Supplier<ArmsAlongBeam> all = () -> made(ALL, (letter.equals("n") ? "d0;a" : "a") + letter + "5,6;");
                due("arm(0, 0)", all.get().arm(0, 0), kind);
                due("arm(0, 3)", all.get().arm(0, 3), reach);
                due("HAND 1 up", all.get().step(0, 1, 5 + reach), 1);
                due("HAND 1 down", all.get().step(0, 1, 5 - reach), 1);
                refused(all, -3, "HAND 1 farther up", x -> x.step(0, 1, 6 + reach));
                refused(all, -3, "HAND 1 farther down", x -> x.step(0, 1, 4 - reach));
                due("may(0, 1)", all.get().may(0, 1), among(5 - reach, 5 + reach) & ~(1 << 5 | 1 << 6));
                int first = letter.equals("k") ? 0 : among(6 - reach, 6 + reach) & ~(1 << 5 | 1 << 6);
                due("may(0, 0)", all.get().may(0, 0), first);
            });
        }
        sentence("k KEEPER: its HAND 0 never moves", () -> {
            Supplier<ArmsAlongBeam> keeper = () -> made(ALL, "ak5,6;");
            for (int joint = 0; joint < 12; joint++) {
                int to = joint;
                refused(keeper, -3, "step(0, 0, " + to + ")", x -> x.step(0, 0, to));
            }
            due("come(0)", keeper.get().come(0), among(1, 9));
            due("last(0, 6, 5)", keeper.get().last(0, 6, 5), -9);
            due("last(0, 5, 9)", keeper.get().last(0, 5, 9), 1);
            due("judge of 7", judged(keeper.get(), 7), 0);
            due("judge of 107", judged(keeper.get(), 107), -9);
            due("blocked() of a LONG one", made("j2;j6;j10;j0;j1;al10,6;").blocked(), 0);
            due("blocked() of a KEEPER", made("j2;j6;j10;j0;j1;ak10,6;").blocked(), 1);
        });
    }

    private static int among(int least, int greatest) {
        int bits = 0;
        for (int joint = Math.max(0, least); joint <= Math.min(11, greatest); joint++) {
            bits |= 1 << joint;
        }
        return bits;
    }

    private static void works() {
        Supplier<ArmsAlongBeam> light = () -> made("j2;j3;j4;aw1,2;h22;d23;");
        Supplier<ArmsAlongBeam> dark = () -> made("j2;j3;j4;aw1,2;h23;d23;");
        sentence("w LIT: only in HOURS of LIGHT", () -> {
            due("arm(0, 4) in LIGHT", light.get().arm(0, 4), 1);
            due("step in LIGHT", light.get().step(0, 0, 3), 1);
            due("fix in LIGHT", made("aw0,1;").fix(0, 2), 1);
            due("unfix in LIGHT", light.get().unfix(0, 3), 1);
            due("arm(0, 4) in the dark", dark.get().arm(0, 4), 0);
            due("may(0, 0) in the dark", dark.get().may(0, 0), 0);
            refused(dark, -3, "step in the dark", x -> x.step(0, 0, 3));
            refused(() -> made("d0;aw0,1;"), -3, "fix in the dark", x -> x.fix(0, 2));
            refused(dark, -3, "unfix in the dark", x -> x.unfix(0, 3));
            ArmsAlongBeam x = dark.get();
            due("pass(1)", x.pass(1), 0);
            due("step in LIGHT again", x.step(0, 0, 3), 2);
        });
        sentence("n NIGHTLY: only in dark HOURS", () -> {
            ArmsAlongBeam x = made("j2;j3;j4;an1,2;h22;d23;");
            due("step in LIGHT", x.step(0, 0, 3), -3);
            due("unfix in LIGHT", x.unfix(0, 0), -3);
            due("fix in LIGHT", made("an0,1;").fix(0, 2), -3);
            due("fix in the dark", made("d0;an0,1;").fix(0, 2), 1);
            due("unfix in the dark", made("d0;j2;an0,1;").unfix(0, 2), 1);
            due("may(0, 0) in LIGHT", x.may(0, 0), 0);
            due("pass(1)", x.pass(1), 23);
            due("may(0, 0) in the dark", x.may(0, 0), 1 << 0 | 1 << 3 | 1 << 4);
            due("step in the dark", x.step(0, 0, 3), 2);
            due("step in LIGHT again", x.step(0, 0, 4), -3);
        });
        sentence("a, l, s, k: always", () -> {
            for (String kind : new String[] {"a", "l", "s", "k"}) {
                due(kind + " in LIGHT", made("a" + kind + "0,1;").arm(0, 4), 1);
                due(kind + " in the dark", made("d0;a" + kind + "0,1;").arm(0, 4), 1);
            }
        });
    }

    // "Terms": a STEP, to FIX, to FREE.

    private static void steps() {
        sentence("A STEP: no farther than REACH from its other HAND, however far from where it was", () -> {
            Supplier<ArmsAlongBeam> x = () -> made(ALL, "aa2,5;");
            due("6 JOINTS on", x.get().step(0, 0, 8), 1);
            refused(x, -3, "7 JOINTS on", y -> y.step(0, 0, 9));
            due("6 JOINTS back", made(ALL, "aa8,5;").step(0, 0, 2), 1);
            refused(() -> made(ALL, "aa8,5;"), -3, "7 JOINTS back", y -> y.step(0, 0, 1));
        });
        sentence("To FIX: a JOINT beside one on which it has a HAND", () -> {
            Supplier<ArmsAlongBeam> x = () -> made("j3;j7;al3,7;");
            for (int joint : new int[] {2, 4, 6, 8}) {
                due("fix(0, " + joint + ")", x.get().fix(0, joint), 1);
            }
            refused(x, -3, "2 from both", y -> y.fix(0, 5));
            refused(x, -3, "2 above", y -> y.fix(0, 9));
            refused(() -> made("j3;j7;al3,7;j1;"), -3, "2 below", y -> y.fix(0, 1));
            due("beside one, 3 from the other of a SHORT", made("j2;as0,2;").fix(0, 3), 1);
        });
        sentence("To FIX: a JOINT that is not", () -> {
            refused(() -> made("j2;aa0,1;"), -3, "FIXED beside", x -> x.fix(0, 2));
            refused(() -> made("j2;aa0,1;"), -3, "FIXED, its HAND there", x -> x.fix(0, 1));
            due("not FIXED beside", made("j2;aa1,2;").fix(0, 3), 1);
        });
        sentence("To FIX: the first and the last JOINT", () -> {
            ArmsAlongBeam x = made("j2;as1,2;j0;");
            due("fix(0, 0)", x.fix(0, 0), 1);
            due("joint(0)", x.joint(0), -9);
            ArmsAlongBeam y = made("j9;j10;as9,10;");
            due("fix(0, 11)", y.fix(0, 11), 1);
            due("joint(11)", y.joint(11), -9);
        });
        sentence("To FREE: one beside a HAND of its", () -> {
            Supplier<ArmsAlongBeam> x = () -> made(ALL, "al3,7;");
            for (int joint : new int[] {2, 4, 6, 8}) {
                due("unfix(0, " + joint + ")", x.get().unfix(0, joint), 1);
            }
            refused(x, -3, "2 from both", y -> y.unfix(0, 5));
            refused(x, -3, "2 above", y -> y.unfix(0, 9));
            refused(x, -3, "2 below", y -> y.unfix(0, 1));
            refused(() -> made("j2;aa0,1;j2;"), -3, "not FIXED", y -> y.unfix(0, 2));
        });
        sentence("To FREE: on which there is no HAND", () -> {
            Supplier<ArmsAlongBeam> x = () -> made("j2;j3;as0,1;as2,3;");
            refused(x, -3, "its own HAND 0", y -> y.unfix(0, 0));
            refused(x, -3, "its own HAND 1", y -> y.unfix(0, 1));
            refused(x, -3, "another's HAND 0", y -> y.unfix(0, 2));
            refused(x, -3, "another's HAND 1", y -> y.unfix(1, 1));
        });
        sentence("To FREE: the first and the last JOINT", () -> {
            ArmsAlongBeam x = made("j2;as1,2;");
            due("unfix(0, 0)", x.unfix(0, 0), 1);
            due("joint(0)", x.joint(0), -8);
            ArmsAlongBeam y = made("j9;j10;j11;as9,10;");
            due("unfix(0, 11)", y.unfix(0, 11), 1);
            due("joint(11)", y.joint(11), -8);
        });
        sentence("Each takes an HOUR: HOUR is 1 more (0 behind 23), HOURS 1 more", () -> {
            ArmsAlongBeam x = made("j2;aa0,1;h22;");
            due("step", x.step(0, 1, 2), 1);
            due("count(2)", x.count(2), 23);
            due("step", x.step(0, 1, 1), 2);
            due("count(2)", x.count(2), 0);
            ArmsAlongBeam y = made("j2;aa0,1;h23;");
            due("unfix", y.unfix(0, 2), 1);
            due("count(2)", y.count(2), 0);
            due("beam of h23;", tell(y, "h23;"), 1);
            due("fix", y.fix(0, 2), 2);
            due("count(2)", y.count(2), 0);
            due("count(3)", y.count(3), 2);
        });
    }

    // "==== II.": MAY to LAST.

    /** Four LONG ARMS, each in the way of each: none can make a STEP. */
    private static ArmsAlongBeam fourShut() {
        return made("j2;j3;j4;j5;j6;j7;al0,4;al1,5;al2,6;", "al3,7;");
    }

    private static void may() {
        sentence("MAY: JOINTS (bits) to which a HAND of an ARM may go now", () -> {
            due("none", made("aa0,1;").may(0, 0), 0);
            due("JOINT 0 alone", made("j2;as1,2;").may(0, 0), 1);
            due("JOINT 11 alone", made("j9;j10;j11;as10,9;").may(0, 0), 1 << 11);
            due("cut off below JOINT 0", made(ALL, "al1,2;").may(0, 0), 1 | among(3, 6));
            due("cut off above JOINT 11", made(ALL, "al10,9;").may(0, 0), among(5, 8) | 1 << 11);
        });
        sentence("BLOCKED: ARMS (bits) that work now and may make no STEP", () -> {
            due("no ARMS", new ArmsAlongBeam().blocked(), 0);
            due("all four", fourShut().blocked(), 15);
            due("the last alone", made("j2;j3;j4;j10;j11;al0,4;as1,2;as10,11;").blocked(), 1 << 2);
            due("by one JOINT too far", made("j4;as0,1;").blocked(), 1);
            due("just as far as REACH", made("j3;as0,1;").blocked(), 0);
            due("does not work", made("d0;aw0,1;").blocked(), 0);
            due("works", made("aw0,1;").blocked(), 1);
        });
        sentence("BY whom: ARMS (bits) of which each, were it alone not there, would let a BLOCKED one make one", () -> {
            due("all three others", fourShut().by(0), 14);
            due("all three others", fourShut().by(3), 7);
            due("nobody", made("aa0,1;").by(0), 0);
            due("one HAND just as far as REACH", made("j3;j4;as0,1;as3,4;").by(0), 2);
            due("by one JOINT too far", made("j4;j5;as0,1;as4,5;").by(0), 0);
        });
        sentence("CLOSED IN: pairs of ARMS (lesser one first) that are both BLOCKED, each BY the other: how many", () -> {
            due("no ARMS", new ArmsAlongBeam().closedIn(0), 0);
            due("one ARM", made("aa0,1;").closedIn(0), 0);
            due("all pairs", fourShut().closedIn(0), 6);
            due("the last pair alone", lastPair().closedIn(0), 1);
            due("one BY the other, not the other BY it", made("j4;j5;al0,1;as4,5;").closedIn(0), 0);
            due("one BLOCKED BY the other, which is not", made("j2;j3;j5;as0,1;as2,3;").closedIn(0), 0);
        });
        sentence("the first (10 times the one and the other; -9)", () -> {
            due("no ARMS", new ArmsAlongBeam().closedIn(1), -9);
            due("none", made("aa0,1;").closedIn(1), -9);
            due("of all pairs", fourShut().closedIn(1), 1);
            due("the last pair alone", lastPair().closedIn(1), 23);
        });
    }

    private static ArmsAlongBeam lastPair() {
        return made("j2;j3;j4;j5;j8;j9;j10;j11;as0,1;as4,5;as8,9;", "as10,11;");
    }

    private static void ways() {
        sentence("WAY: the fewest STEPS of one ARM by which one of its HANDS is on a told JOINT; -9", () -> {
            due("there is HAND 0", made(ALL, "as0,1;").way(0, 0), 0);
            due("there is HAND 1", made(ALL, "as0,1;").way(0, 1), 0);
            due("a SHORT from end to end", made(ALL, "as0,1;").way(0, 11), 5);
            due("an ARM from end to end", made(ALL, "aa0,1;").way(0, 11), 4);
            due("a LONG from end to end", made(ALL, "al0,1;").way(0, 11), 3);
            due("and back", made(ALL, "as11,10;").way(0, 0), 5);
            due("as far as a KEEPER reaches", made(ALL, "ak0,1;").way(0, 4), 1);
            due("farther than a KEEPER reaches", made(ALL, "ak0,1;").way(0, 5), -9);
            due("not FIXED", made("aa0,1;").way(0, 2), -9);
            due("a gap as wide as REACH", made("j4;aa0,1;").way(0, 4), 1);
            due("a gap wider than REACH", made("j5;aa0,1;").way(0, 5), -9);
        });
        sentence("WAY, COME, LAST: asked again and again, each time from where it is now", () -> {
            ArmsAlongBeam x = made(ALL, "as0,1;as10,11;");
            for (int joint = 3; joint < 9; joint += 2) {
                int hand = joint % 4 == 3 ? 0 : 1;
                due("way(0, 9)", x.way(0, 9), (11 - joint) / 2);
                due("last(0, 0, 1)", x.last(0, 0, 1), x.arm(0, 1) == 0 ? 0 : joint == 5 ? 1 : 2);
                due("come(0)", x.come(0), among(0, 9));
                due("come(1)", x.come(1), EVERY & ~(1 << x.arm(0, 1) | 1 << x.arm(0, 2)));
                due("step", x.step(0, hand, joint), (joint - 1) / 2);
            }
            due("unfix(0, 6)", x.unfix(0, 6), 4);
            due("come(0)", x.come(0), among(0, 9) & ~(1 << 6));
        });
        sentence("(all others stay; HOURS aside: it works)", () -> {
            due("another's JOINT", made("j2;j3;as0,1;as2,3;").way(0, 2), -9);
            due("over another", made(ALL, "aa0,1;as2,3;").way(0, 4), 1);
            due("it does not work now", made("j2;d0;aw0,1;").way(0, 2), 1);
            due("it never works", made("j2;an0,1;").way(0, 2), 1);
            due("HOURS are 9999", late(made("j2;as0,1;"), 9999).way(0, 2), 1);
        });
        sentence("COME: all JOINTS (bits) on which it can have a HAND so", () -> {
            due("where it stands alone", made("aa0,1;").come(0), 3);
            due("all, from JOINT 0 on", made(ALL, "as0,1;").come(0), EVERY);
            due("all, from JOINT 11 on", made(ALL, "as11,10;").come(0), EVERY);
            due("a KEEPER's own", made(ALL, "ak0,1;").come(0), among(0, 4));
            due("never works", made("j2;an0,1;").come(0), 7);
        });
        sentence("LAST: the fewest STEPS by which both are on two told JOINTS; -9", () -> {
            due("as it stands", made("aa0,1;").last(0, 0, 1), 0);
            due("the other way round, no room", made("aa0,1;").last(0, 1, 0), -9);
            due("the other way round", made(ALL, "aa0,1;").last(0, 1, 0), 3);
            due("both on one, HANDS there", made(ALL, "aa0,1;").last(0, 0, 0), -9);
            due("both on one", made(ALL, "aa0,1;").last(0, 5, 5), -9);
            due("the other end", made(ALL, "aa0,1;").last(0, 10, 11), 4);
            due("the other end, the other way round", made(ALL, "aa0,1;").last(0, 11, 10), 5);
            due("as far apart as REACH", made(ALL, "as0,1;").last(0, 0, 2), 1);
            due("farther apart than REACH", made(ALL, "as0,1;").last(0, 0, 3), -9);
            due("HOURS aside", made("j2;an0,1;").last(0, 0, 2), 1);
        });
    }

    // "==== II.": HANDING to SEEDS.

    private static void handing() {
        sentence("an ARM takes it, if one of its HANDS is there or beside", () -> {
            ArmsAlongBeam x = made("j3;j4;j5;j6;j7;al3,7;");
            due("there, HAND 0 to HAND 1", x.handing(3, 7), 1);
            due("beside, outside", x.handing(2, 8), 1);
            due("beside, inside", x.handing(4, 6), 1);
            due("2 from both", x.handing(5, 3), -9);
            due("to 2 from both", x.handing(3, 5), -9);
            due("2 below", x.handing(1, 3), -9);
            due("2 above", x.handing(3, 9), -9);
        });
        sentence("hands it to an ARM, if HANDS of both are on JOINTS no more than 2 apart", () -> {
            due("1 apart", made("j2;j3;as0,1;as2,3;").handing(0, 4), 2);
            due("2 apart", made("j3;j4;as0,1;as3,4;").handing(0, 5), 2);
            due("2 apart, downwards", made("j3;j4;as0,1;as3,4;").handing(5, 0), 2);
            due("3 apart", made("j4;j5;as0,1;as4,5;").handing(0, 5), -9);
            due("3 apart, HANDS 0 of both", made("j4;j5;as1,0;as4,5;").handing(0, 5), -9);
            due("3 apart, HANDS 1 of both", made("j4;j5;as0,1;as5,4;").handing(0, 5), -9);
            due("3 apart, HAND 0 of one, HAND 1 of the other", made("j4;j5;as1,0;as5,4;").handing(0, 5), -9);
            due("HANDS 0 of both", made("j4;j6;j8;al4,0;al6,8;").handing(0, 9), 2);
            due("HANDS 1 of both", made("j4;j6;j8;al0,4;al8,6;").handing(0, 9), 2);
            due("HAND 0 of one, HAND 1 of the other", made("j4;j6;j8;al4,0;al8,6;").handing(0, 9), 2);
        });
        sentence("the fewest ARMS (0 it is the same JOINT); -9", () -> {
            due("the same, nobody there", new ArmsAlongBeam().handing(0, 0), 0);
            due("the same, not FIXED", new ArmsAlongBeam().handing(11, 11), 0);
            due("nobody there", new ArmsAlongBeam().handing(0, 1), -9);
            due("one", made("aa0,1;").handing(0, 1), 1);
            due("all four", made(ALL, "as0,1;as3,4;as6,7;as9,10;").handing(0, 11), 4);
            due("all four, downwards", made(ALL, "as0,1;as3,4;as6,7;as9,10;").handing(11, 0), 4);
        });
        sentence("whether without a told ARM it still goes (1, 0)", () -> {
            due("the same, without the only one", made("aa0,1;").without(5, 5, 0), 1);
            due("without the only one", made("aa0,1;").without(0, 1, 0), 0);
            due("without one of two", made("j2;j3;as0,1;as2,3;").without(1, 2, 0), 1);
            due("without the other of two", made("j2;j3;as0,1;as2,3;").without(1, 2, 1), 1);
            due("without one between", made("j3;j4;j6;j7;as0,1;as3,4;as6,7;").without(0, 7, 1), 0);
            due("without the last of four", made(ALL, "as0,1;as3,4;as6,7;as9,10;").without(0, 8, 3), 1);
            due("without the last of four", made(ALL, "as0,1;as3,4;as6,7;as9,10;").without(0, 9, 3), 0);
        });
        sentence("FALLS: JOINTS (bits) that are FIXED and then have no way along FIXED ones, side by side, to JOINT 0", () -> {
            due("nothing behind it", made(ALL).falls(11), 0);
            due("the last alone", made(ALL).falls(10), 1 << 11);
            due("all behind it", made(ALL).falls(1), among(2, 11));
            due("what has no way already", made("j3;").falls(1), 1 << 3);
            due("one without a way itself", made("j3;j4;").falls(3), 1 << 4);
            due("a gap of one JOINT", made("j2;j4;").falls(2), 1 << 4);
        });
        sentence("(all FIXED ones but it, if it is JOINT 0)", () -> {
            due("all", made(ALL).falls(0), among(1, 11));
            due("but it alone", made("j1;").falls(0), 0);
        });
    }

    private static ArmsAlongBeam fourApart() {
        return made(ALL, "as0,1;as3,4;as6,7;as9,8;");
    }

    private static int stoodAs(ArmsAlongBeam x, int what, int... hands) {
        row(x, hands);
        return x.stood(what);
    }

    private static int backFrom(ArmsAlongBeam x, int... hands) {
        row(x, hands);
        return x.back();
    }

    private static void stood() {
        sentence("a ROW (as many numbers as HANDS)", () -> {
            due("no HANDS, no numbers", new ArmsAlongBeam().stood(0), 0);
            due("no HANDS, no numbers", new ArmsAlongBeam().stood(1), -9);
            due("no HANDS, no numbers", new ArmsAlongBeam().back(), 0);
            due("no HANDS, one number", stoodAs(new ArmsAlongBeam(), 0, 0), -3);
            due("one fewer", stoodAs(made("j2;aa0,1;"), 0, 0), -3);
            due("as many", stoodAs(made("j2;aa0,1;"), 0, 0, 2), 1);
            due("one more", stoodAs(made("j2;aa0,1;"), 0, 0, 2, 0), -3);
            due("8 of 4 ARMS", stoodAs(fourApart(), 0, 0, 2, 3, 4, 6, 7, 9, 8), 1);
            due("7 of 4 ARMS", stoodAs(fourApart(), 0, 0, 2, 3, 4, 6, 7, 9), -3);
            due("9 of 4 ARMS", stoodAs(fourApart(), 0, 0, 2, 3, 4, 6, 7, 9, 8, 0), -3);
            due("back from one fewer", backFrom(made("j2;aa0,1;"), 0), -3);
            due("back from one more", backFrom(made("j2;aa0,1;"), 0, 2, 0), -3);
        });
        sentence("how many single STEPS (HOURS aside) lead there from now", () -> {
            due("none, as all stand", stoodAs(made(ALL, "aa5,6;"), 0, 5, 6), 0);
            due("one", stoodAs(made(ALL, "aa5,6;"), 0, 9, 6), 1);
            due("farther than REACH", stoodAs(made(ALL, "aa5,6;"), 0, 10, 6), 0);
            due("two HANDS", stoodAs(made(ALL, "aa5,6;"), 0, 4, 7), 0);
            due("two HANDS on one", stoodAs(made(ALL, "aa5,6;"), 0, 6, 6), 0);
            due("not FIXED", stoodAs(made("aa0,1;"), 0, 0, 2), 0);
            due("no JOINT", stoodAs(made(ALL, "aa8,9;"), 0, 12, 9), 0);
            due("no JOINT", stoodAs(made(ALL, "aa8,9;"), 0, 32, 9), 0);
            due("no JOINT", stoodAs(made(ALL, "aa8,9;"), 0, 40, 9), 0);
            due("no JOINT", stoodAs(made(ALL, "aa8,9;"), 0, 8, 3111), 0);
            due("a KEEPER's HAND 0", stoodAs(made(ALL, "ak5,6;"), 0, 7, 6), 0);
            due("a KEEPER's HAND 1", stoodAs(made(ALL, "ak5,6;"), 0, 5, 9), 1);
            due("it never works", stoodAs(made("j2;an0,1;"), 0, 0, 2), 1);
            due("HOURS are 9999", stoodAs(late(made("j2;aa0,1;"), 9999), 0, 0, 2), 1);
        });
        sentence("the first (1000 times the ARM, 100 times the HAND, and the JOINT; -9)", () -> {
            due("none", stoodAs(made(ALL, "aa5,6;"), 1, 5, 6), -9);
            due("the least there is", stoodAs(made("j2;as1,2;"), 1, 0, 2), 0);
            due("the greatest there is", stoodAs(fourApart(), 1, 0, 1, 3, 4, 6, 7, 9, 11), 3111);
            due("HAND 1", stoodAs(made("j2;as1,2;j3;"), 1, 1, 3), 103);
            due("ARM 1", stoodAs(fourApart(), 1, 0, 1, 2, 4, 6, 7, 9, 8), 1002);
        });
    }

    private static void back() {
        Supplier<ArmsAlongBeam> two = () -> made("j2;j3;j4;j5;j6;as0,1;as3,4;");
        sentence("BACK: how many single STEPS (HOURS aside) lead from there to how all stand now", () -> {
            due("none, as all stand", backFrom(two.get(), 0, 1, 3, 4), 0);
            due("one", backFrom(two.get(), 0, 2, 3, 4), 1);
            due("two HANDS", backFrom(two.get(), 2, 1, 5, 4), 0);
            due("the other way round", backFrom(two.get(), 1, 0, 3, 4), 0);
            due("it never works", backFrom(made("j2;an0,1;"), 0, 2), 1);
            due("HOURS are 9999", backFrom(late(made("j2;aa0,1;"), 9999), 0, 2), 1);
            due("a KEEPER's HAND 1", backFrom(made(ALL, "ak5,6;"), 5, 9), 1);
        });
        sentence("not all could stand so", () -> {
            due("as far apart as REACH", backFrom(two.get(), 0, 1, 3, 5), 1);
            due("farther apart than REACH", backFrom(two.get(), 0, 1, 3, 6), -3);
            due("farther apart than REACH", backFrom(two.get(), 5, 1, 3, 4), -3);
            due("two HANDS on one", backFrom(two.get(), 1, 1, 3, 4), -3);
            due("another's HAND there", backFrom(two.get(), 3, 1, 3, 4), -3);
            due("not FIXED", backFrom(two.get(), 0, 1, 7, 6), -3);
            due("the last JOINT", backFrom(made(ALL, "as10,9;"), 11, 9), 1);
            due("no JOINT", backFrom(made(ALL, "as10,11;"), 12, 11), -3);
            due("no JOINT", backFrom(made(ALL, "as10,11;"), 10, 3111), -3);
        });
    }

    private static final int[] SIXTEEN = {102, 101, 102, 101, 102, 101, 102, 101, 102, 101, 102, 101, 102, 101, 102, 101};

    private static void judged() {
        Supplier<ArmsAlongBeam> one = () -> made("j2;aa0,1;");
        sentence("JUDGED: a ROW of STEPS (1000 times the ARM, 100 times the HAND, and the JOINT)", () -> {
            due("the least, and it can", judged(made("j2;as1,2;"), 0), -9);
            due("the least, and it can't", judged(made("j2;as0,1;"), 0), 0);
            due("the greatest, and it can", judged(fourApart(), 3111), -9);
            due("the greatest, and it can't", judged(made(ALL, "as0,1;as3,4;as6,7;"), 3111), 0);
            due("ARM 1, and there is but one", judged(one.get(), 1002), 0);
            due("HAND 2", judged(one.get(), 202), 0);
            due("HAND 9", judged(one.get(), 902), 0);
            due("JOINT 12", judged(made(ALL, "aa10,11;"), 12), 0);
            due("JOINT 32", judged(made(ALL, "as2,1;"), 32), 0);
            due("JOINT 99", judged(one.get(), 199), 0);
        });
        sentence("JUDGED: where each ARM's and each HAND's numbers begin", () -> {
            for (int arm = 0; arm < 4; arm++) {
                String[] each = {"as4,5;", "as7,6;", "as9,8;", "as10,11;"};
                each[arm] = "as1,2;";
                for (int other = 0; other < 4; other++) {
                    int want = arm == other ? -9 : 0;
                    due("HAND 0 of " + other, judged(made(ALL, String.join("", each)), 1000 * other), want);
                    due("HAND 1 of " + other, judged(made(ALL, String.join("", each)), 1000 * other + 100), want);
                    due("no HAND of " + other, judged(made(ALL, String.join("", each)), Math.min(3111, 1000 * other + 200)), 0);
                }
            }
        });
        sentence("16 numbers at most", () -> {
            int[] last = SIXTEEN.clone();
            last[15] = 102;
            int[] first = SIXTEEN.clone();
            first[0] = 101;
            due("none", judged(one.get()), -9);
            due("16, and all can", judged(one.get(), SIXTEEN), -9);
            due("16, and the last can't", judged(one.get(), last), 15);
            due("16, and the first can't", judged(one.get(), first), 0);
        });
        sentence("one an HOUR from now", () -> {
            due("the first in this HOUR", judged(made("d5;h5;j2;an0,1;"), 102), -9);
            due("not in the one behind", judged(made("d6;h5;j2;an0,1;"), 102), 0);
            due("the second in the one behind", judged(made("d5;d6;h5;j2;an0,1;"), 102, 101), -9);
            due("the second not in this one", judged(made("d5;h5;j2;an0,1;"), 102, 101), 1);
            due("HOUR 0 behind 23", judged(made("d23;d0;h23;j2;an0,1;"), 102, 101), -9);
            due("HOUR 1 behind 0", judged(made("d23;d0;h23;j2;an0,1;"), 102, 101, 102), 2);
            due("an HOUR goes by for another's STEP", judged(made("d1;j2;j5;j6;j7;an0,1;as5,6;"), 1007, 102), -9);
        });
        sentence("the STEPS are looked at, not made", () -> {
            ArmsAlongBeam x = made("j2;h23;aa0,1;");
            due("judge()", judged(x, 102, 101, 102), -9);
            due("joint(1)", x.joint(1), 1);
            due("count(2)", x.count(2), 23);
            due("count(3)", x.count(3), 0);
        });
    }

    private static void rest() {
        sentence("REST: behind how many HOURS (0 .. 23) an ARM works first; -9 never", () -> {
            ArmsAlongBeam x = allDark("w");
            due("w without LIGHT", x.rest(0), -9);
            due("beam of d5;h5;", tell(x, "d5;h5;"), 2);
            due("now", x.rest(0), 0);
            for (int wait = 23; wait > 0; wait--) {
                x.pass(1);
                due("rest(0) in HOUR " + x.count(2), x.rest(0), wait);
            }
            due("n without dark", made("an0,1;").rest(0), -9);
            due("n, dark now", made("d0;an0,1;").rest(0), 0);
            due("n, dark was an HOUR ago", made("d0;an0,1;h1;").rest(0), 23);
            due("n, dark in an HOUR, 0 behind 23", made("d0;an0,1;h23;").rest(0), 1);
            due("n, dark in HOUR 23", made("d23;an0,1;").rest(0), 23);
            due("always, in the dark", allDark("a").rest(0), 0);
        });
    }

    private static ArmsAlongBeam threeByTurns() {
        return made(ALL, "aa0,1;aw4,5;an8,9;d1;d3;d5;d7;d9;d11;d13;d15;", "d17;d19;d21;d23;h23;");
    }

    private static void seeds() {
        Supplier<ArmsAlongBeam> one = () -> made(ALL, "aa5,6;");
        Supplier<ArmsAlongBeam> four = () -> made(ALL, "aa5,6;al2,3;as8,9;ak10,11;");
        int[] z = {0, 1, 2, 3, -1, -2, 7, GREATEST, LEAST};
        int[] ofThree = {7, 8, 6, 9, 6, 7, 9, 6, 7};
        int[] ofOne = {21, 14, 22, 19, 24, 21, 23, 24, 21};
        int[] ofFour = {6, 7, 7, 6, 10, 7, 9, 10, 6};
        sentence("SEEDS with a seed z: 60 times", () -> {
            for (int i = 0; i < z.length; i++) {
                int seed = z[i];
                asked(EdgeTests::threeByTurns, ofThree[i], "seeds(60, " + seed + ")", x -> x.seeds(60, seed));
                due("seeds(60, " + seed + ") of one ARM", one.get().seeds(60, seed), ofOne[i]);
                due("seeds(60, " + seed + ") of four ARMS", four.get().seeds(60, seed), ofFour[i]);
            }
        });
        sentence("SEEDS with a seed z: once, twice", () -> {
            int[] onceOne = {0, 0, 1, 0, 1, 0, 1, 1, 0};
            int[] twiceOne = {1, 0, 1, 0, 1, 0, 1, 1, 1};
            int[] onceThree = {1, 0, 0, 1, 0, 0, 0, 0, 1};
            int[] twiceThree = {1, 0, 0, 2, 0, 0, 0, 0, 1};
            for (int i = 0; i < z.length; i++) {
                due("seeds(1, " + z[i] + ") of one ARM", one.get().seeds(1, z[i]), onceOne[i]);
                due("seeds(2, " + z[i] + ") of one ARM", one.get().seeds(2, z[i]), twiceOne[i]);
                due("seeds(1, " + z[i] + ") of three", threeByTurns().seeds(1, z[i]), onceThree[i]);
                due("seeds(2, " + z[i] + ") of three", threeByTurns().seeds(2, z[i]), twiceThree[i]);
            }
        });
        sentence("SEEDS: each call begins with its own z", () -> {
            ArmsAlongBeam x = one.get();
            due("seeds(60, 2)", x.seeds(60, 2), 22);
            due("seeds(60, 2)", x.seeds(60, 2), 22);
            due("seeds(1, 2)", x.seeds(1, 2), 1);
        });
        sentence("SEEDS: how many could: none", () -> {
            due("BLOCKED", fourShut().seeds(60, 1), 0);
            due("it never works", made(ALL, "an5,6;").seeds(60, 1), 0);
        });
    }

    // THE IMAGE, REFUSALS.

    private static void theImage() {
        sentence("THE IMAGE: all that is told, HOURS", () -> {
            ArmsAlongBeam x = made("j2;j3;aa0,1;d5;d6;h7;");
            due("pass(20)", x.pass(20), 3);
            List<String> then = stands(x);
            due("image()", x.image(), 20);
            due("step", x.step(0, 0, 2), 21);
            due("unfix", x.unfix(0, 0), 22);
            due("fix", x.fix(0, 0), 23);
            due("beam", tell(x, "j11;j10;as11,10;d6;d7;h1;j0;"), 7);
            due("on()", x.on(), 20);
            due("all is as then " + stands(x), stands(x).equals(then) ? 1 : 0, 1);
            due("an ARM comes again", tell(x, "as2,3;"), 1);
            due("arm(1, 0)", x.arm(1, 0), 2);
            due("on() again", x.on(), 20);
            due("all is as then " + stands(x), stands(x).equals(then) ? 1 : 0, 1);
        });
        sentence("THE IMAGE of a new object", () -> {
            ArmsAlongBeam x = new ArmsAlongBeam();
            List<String> then = stands(x);
            due("image()", x.image(), 0);
            due("beam", tell(x, "j2;j3;aa0,1;as2,3;d0;h9;"), 6);
            due("pass(99)", x.pass(99), 12);
            due("on()", x.on(), 0);
            due("all is as then " + stands(x), stands(x).equals(then) ? 1 : 0, 1);
        });
        sentence("THE IMAGE taken again: the one before is gone", () -> {
            ArmsAlongBeam x = new ArmsAlongBeam();
            due("image()", x.image(), 0);
            x.pass(1);
            due("image()", x.image(), 1);
            x.pass(1);
            due("on()", x.on(), 1);
            due("on()", x.on(), 1);
        });
        sentence("(not the ROW, letters, REFUSALS)", () -> {
            ArmsAlongBeam x = rich();
            due("count(5)", x.count(5), 6);
            due("count(6)", x.count(6), 7);
            x.image();
            due("clear()", x.clear(), 6);
            due("row(1)", x.row(1), 1);
            due("letter", x.letter(';'), 8);
            due("joint(-1)", x.joint(-1), -1);
            due("on()", x.on(), 2);
            due("count(5)", x.count(5), 1);
            due("count(6)", x.count(6), 8);
            due("count(11)", x.count(11), 2);
            due("beam()", x.beam(), -1007);
            due("on()", x.on(), 2);
            due("count(6)", x.count(6), 0);
        });
        sentence("THE IMAGE at HOURS 9999", () -> {
            ArmsAlongBeam x = late(made("j2;as0,1;"), 9999);
            due("image()", x.image(), 9999);
            due("on()", x.on(), 9999);
            due("step", x.step(0, 0, 2), -6);
        });
        sentence("ON from one of fewer HOURS than 9999", () -> {
            ArmsAlongBeam x = made("j2;as0,1;");
            x.image();
            late(x, 9999);
            due("step", x.step(0, 0, 2), -6);
            due("on()", x.on(), 0);
            due("step", x.step(0, 0, 2), 1);
        });
    }

    private static void refusals() {
        sentence("REFUSALS: the first that fits in the order in which it tells them", () -> {
            Supplier<ArmsAlongBeam> last = () -> late(made("j2;j3;as0,1;"), 9999);
            refused(EdgeTests::fullOfLetters, -4, "letter(-1), no room", x -> x.letter(-1));
            refused(EdgeTests::rich, -1, "arm(3, 5)", x -> x.arm(3, 5));
            refused(last, -1, "step(1, 0, 9)", x -> x.step(1, 0, 9));
            refused(last, -1, "step(0, 2, 9)", x -> x.step(0, 2, 9));
            refused(last, -1, "step(0, 0, 12)", x -> x.step(0, 0, 12));
            refused(last, -3, "step(0, 0, 9)", x -> x.step(0, 0, 9));
            refused(last, -1, "fix(1, 9)", x -> x.fix(1, 9));
            refused(last, -1, "fix(0, 12)", x -> x.fix(0, 12));
            refused(last, -3, "fix(0, 9)", x -> x.fix(0, 9));
            refused(last, -1, "unfix(1, 2)", x -> x.unfix(1, 2));
            refused(last, -1, "unfix(0, 12)", x -> x.unfix(0, 12));
            refused(last, -3, "unfix(0, 3)", x -> x.unfix(0, 3));
            refused(last, -4, "pass(0)", x -> x.pass(0));
            refused(EdgeTests::fullRow, -4, "row(-1), no room", x -> x.row(-1));
            refused(EdgeTests::fullRow, -2, "stood(2)", x -> x.stood(2));
            refused(ArmsAlongBeam::new, -4, "seeds(0, 0)", x -> x.seeds(0, 0));
            refused(ArmsAlongBeam::new, -6, "seeds(61, 0)", x -> x.seeds(61, 0));
        });
        sentence("how many there were: each for itself, -5 none", () -> {
            ArmsAlongBeam x = new ArmsAlongBeam();
            int[] many = {3, 4, 5, 2, 0, 6};
            for (int i = 0; i < 6; i++) {
                due("count(" + (11 + i) + ")", x.count(11 + i), 0);
                for (int n = 0; n < many[i]; n++) {
                    due("REFUSAL " + (-1 - i), refusal(x, -1 - i), -1 - i);
                }
            }
            for (int i = 0; i < 6; i++) {
                due("count(" + (11 + i) + ")", x.count(11 + i), many[i]);
            }
        });
    }

    private static int refusal(ArmsAlongBeam x, int which) {
        switch (which) {
            case -1:
                return x.joint(12);
            case -2:
                return x.closedIn(2);
            case -3:
                return x.on();
            case -4:
                return x.pass(0);
            default:
                return x.pass(100);
        }
    }

    // The promises, one by one: what each refuses, and the last that it does not.

    private interface With {
        int of(ArmsAlongBeam x, int v);
    }

    private static final int[] NO_JOINT = {-1, 12, LEAST, GREATEST};
    private static final int[] NO_HAND = {-1, 2, LEAST, GREATEST};
    /** For an object with three ARMS. */
    private static final int[] NO_ARM = {-1, 3, LEAST, GREATEST};
    private static final int[] NO_WHAT = {-1, 2, LEAST, GREATEST};

    private static void nobody(String call, int[] bad, With asks) {
        for (int v : bad) {
            refused(EdgeTests::rich, -1, call + " with " + v, x -> asks.of(x, v));
        }
    }

    private static void promises1To5() {
        sentence("Promise 1: JOINTS 0 and 1 are FIXED, no ARMS", () -> {
            ArmsAlongBeam x = new ArmsAlongBeam();
            for (int what = 0; what < 17; what++) {
                int want = what == 1 ? 2 : what == 4 ? 24 : what > 6 && what < 11 ? -9 : 0;
                due("count(" + what + ")", x.count(what), want);
            }
            refused(ArmsAlongBeam::new, -1, "arm(0, 0)", y -> y.arm(0, 0));
        });
        sentence("Promise 2: A letter (0 .. 255) comes: how many there are. -4; -6 (255; 64, too)", () -> {
            ArmsAlongBeam x = new ArmsAlongBeam();
            for (int many = 1; many <= 64; many++) {
                due("letter " + many, x.letter(many % 2 == 0 ? 0 : 255), many);
            }
            refused(EdgeTests::rich, -4, "letter(-1)", y -> y.letter(-1));
            refused(EdgeTests::rich, -4, "letter(least)", y -> y.letter(LEAST));
            refused(EdgeTests::rich, -6, "letter(256)", y -> y.letter(256));
            refused(EdgeTests::rich, -6, "letter(greatest)", y -> y.letter(GREATEST));
            refused(EdgeTests::fullOfLetters, -6, "letter(0) of 65", y -> y.letter(0));
            refused(EdgeTests::fullOfLetters, -6, "letter(256) of 65", y -> y.letter(256));
        });
        sentence("Promise 3: The letters become a BEAM, and are no more (with a FAULT neither)", () -> {
            ArmsAlongBeam x = new ArmsAlongBeam();
            for (String text : new String[] {"j2;", "j12;", "j"}) {
                tell(x, text);
                due("count(6) behind " + text, x.count(6), 0);
                due("beam() of none", x.beam(), -1000);
            }
        });
        sentence("Promise 3: how many STATEMENTS; the FAULT (nothing is counted)", () -> {
            due("one", tell(new ArmsAlongBeam(), "j2;"), 1);
            due("the most", tell(new ArmsAlongBeam(), "j2;j2;j2;j2;j2;j2;j2;j2;j2;j2;j2;j2;j2;j2;j2;j2;j2;j2;j2;j2;j2;"), 21);
            fault(EdgeTests::fourApart, -2000, "as10,11;");
            fault(EdgeTests::fourApart, -1001, "aq");
        });
        sentence("Promise 4: 0 KIND, 1, 2 where HAND 0, 1 is, 3 REACH, 4 1 it works now. -1; -2", () -> {
            int[][] want = {{0, 0, 2, 3, 1}, {3, 4, 5, 3, 0}, {4, 7, 8, 4, 1}};
            for (int what = 0; what < 5; what++) {
                for (int arm = 0; arm < 3; arm++) {
                    due("arm(" + arm + ", " + what + ")", rich().arm(arm, what), want[arm][what]);
                }
            }
            nobody("arm(., 0)", NO_ARM, (x, v) -> x.arm(v, 0));
            for (int what : new int[] {-1, 5, LEAST, GREATEST}) {
                refused(EdgeTests::rich, -2, "arm(0, " + what + ")", x -> x.arm(0, what));
            }
        });
        sentence("Promise 5: 10 times the ARM and the HAND; -9 nobody, it is FIXED; -8 it is not. -1", () -> {
            int[] joints = {0, 1, 3, 4, 6, 7, 9, 8};
            int[] who = {0, 1, 10, 11, 20, 21, 30, 31};
            for (int i = 0; i < 8; i++) {
                due("joint(" + joints[i] + ")", fourApart().joint(joints[i]), who[i]);
            }
            asked(EdgeTests::rich, -9, "joint(9)", x -> x.joint(9));
            asked(EdgeTests::rich, -8, "joint(10)", x -> x.joint(10));
            asked(EdgeTests::rich, -8, "joint(11)", x -> x.joint(11));
            nobody("joint(.)", NO_JOINT, (x, v) -> x.joint(v));
        });
    }

    private static void promises6To9() {
        Supplier<ArmsAlongBeam> last = () -> late(rich(), 9999);
        sentence("Promise 6: A STEP: HOURS. -1 any; -3 it can not be; -6 HOURS are 9999", () -> {
            due("the last HOUR", late(made("j2;aa0,1;"), 9998).step(0, 0, 2), 9999);
            nobody("step(., 0, 1)", NO_ARM, (x, v) -> x.step(v, 0, 1));
            nobody("step(0, ., 1)", NO_HAND, (x, v) -> x.step(0, v, 1));
            nobody("step(0, 1, .)", NO_JOINT, (x, v) -> x.step(0, 1, v));
            refused(EdgeTests::rich, -3, "step(0, 1, 4)", x -> x.step(0, 1, 4));
            refused(EdgeTests::rich, -3, "it does not work now", x -> x.step(1, 0, 3));
            refused(last, -6, "step(0, 1, 1)", x -> x.step(0, 1, 1));
        });
        sentence("Promise 7: To FIX: HOURS. -1 either; -3; -6", () -> {
            Supplier<ArmsAlongBeam> full = () -> late(made("aa0,1;"), 9999);
            due("the last HOUR", late(made("aa0,1;"), 9998).fix(0, 2), 9999);
            nobody("fix(., 10)", NO_ARM, (x, v) -> x.fix(v, 10));
            nobody("fix(0, .)", NO_JOINT, (x, v) -> x.fix(0, v));
            refused(EdgeTests::rich, -3, "fix(0, 1)", x -> x.fix(0, 1));
            refused(full, -6, "fix(0, 2)", x -> x.fix(0, 2));
        });
        sentence("Promise 8: To FREE: HOURS. -1 either; -3; -6", () -> {
            due("the last HOUR", late(made("j2;aa0,1;"), 9998).unfix(0, 2), 9999);
            nobody("unfix(., 1)", NO_ARM, (x, v) -> x.unfix(v, 1));
            nobody("unfix(0, .)", NO_JOINT, (x, v) -> x.unfix(0, v));
            refused(EdgeTests::rich, -3, "unfix(0, 10)", x -> x.unfix(0, 10));
            refused(last, -6, "unfix(0, 1)", x -> x.unfix(0, 1));
        });
        sentence("Promise 9: n HOURS (1 .. 99) go by: HOUR. -4; -6 (99; HOURS above 9999)", () -> {
            due("pass(1)", new ArmsAlongBeam().pass(1), 1);
            due("pass(99)", new ArmsAlongBeam().pass(99), 3);
            due("pass(99) from HOUR 23", made("h23;").pass(99), 2);
            for (int n : new int[] {0, -1, LEAST}) {
                refused(EdgeTests::rich, -4, "pass(" + n + ")", x -> x.pass(n));
            }
            for (int n : new int[] {100, GREATEST}) {
                refused(EdgeTests::rich, -6, "pass(" + n + ")", x -> x.pass(n));
            }
            due("to 9999", late(new ArmsAlongBeam(), 9900).pass(99), 15);
            due("to 9999 by one", late(new ArmsAlongBeam(), 9998).pass(1), 15);
            refused(() -> late(rich(), 9901), -6, "pass(99) at 9901", x -> x.pass(99));
            refused(last, -6, "pass(1) at 9999", x -> x.pass(1));
            refused(last, -6, "pass(99) at 9999", x -> x.pass(99));
            refused(last, -6, "pass(greatest) at 9999", x -> x.pass(GREATEST));
        });
    }

    private static void promises10To19() {
        sentence("Promise 10: MAY (bits). -1 either", () -> {
            asked(EdgeTests::rich, 1 << 1 | 1 << 3, "may(0, 0)", x -> x.may(0, 0));
            asked(EdgeTests::rich, 0, "may(1, 0)", x -> x.may(1, 0));
            nobody("may(., 0)", NO_ARM, (x, v) -> x.may(v, 0));
            nobody("may(0, .)", NO_HAND, (x, v) -> x.may(0, v));
        });
        sentence("Promise 11: BLOCKED (bits)", () -> {
            asked(EdgeTests::rich, 0, "blocked()", x -> x.blocked());
            asked(EdgeTests::fourShut, 15, "blocked()", x -> x.blocked());
        });
        sentence("Promise 12: BY whom (bits). -1; -3 it is not BLOCKED", () -> {
            asked(EdgeTests::fourShut, 13, "by(1)", x -> x.by(1));
            asked(() -> made("aa0,1;"), 0, "by(0)", x -> x.by(0));
            nobody("by(.)", NO_ARM, (x, v) -> x.by(v));
            refused(EdgeTests::rich, -3, "by(0), it may make one", x -> x.by(0));
            refused(EdgeTests::rich, -3, "by(1), it does not work", x -> x.by(1));
        });
        sentence("Promise 13: CLOSED IN: how many (what 0), the first (1; -9). -2", () -> {
            asked(EdgeTests::fourShut, 6, "closedIn(0)", x -> x.closedIn(0));
            asked(EdgeTests::rich, 0, "closedIn(0)", x -> x.closedIn(0));
            asked(EdgeTests::rich, -9, "closedIn(1)", x -> x.closedIn(1));
            for (int what : NO_WHAT) {
                refused(EdgeTests::rich, -2, "closedIn(" + what + ")", x -> x.closedIn(what));
            }
        });
        sentence("Promise 14: WAY; -9. -1 either", () -> {
            asked(EdgeTests::rich, 3, "way(0, 9)", x -> x.way(0, 9));
            asked(EdgeTests::rich, -9, "way(0, 11)", x -> x.way(0, 11));
            nobody("way(., 0)", NO_ARM, (x, v) -> x.way(v, 0));
            nobody("way(0, .)", NO_JOINT, (x, v) -> x.way(0, v));
        });
        sentence("Promise 15: COME (bits). -1", () -> {
            asked(EdgeTests::rich, among(0, 3) | 1 << 6 | 1 << 9, "come(0)", x -> x.come(0));
            nobody("come(.)", NO_ARM, (x, v) -> x.come(v));
        });
        sentence("Promise 16: LAST: HAND 0 on one, HAND 1 on the other; -9. -1 any", () -> {
            asked(EdgeTests::rich, 2, "last(0, 3, 6)", x -> x.last(0, 3, 6));
            asked(EdgeTests::rich, -9, "last(0, 0, 11)", x -> x.last(0, 0, 11));
            nobody("last(., 0, 2)", NO_ARM, (x, v) -> x.last(v, 0, 2));
            nobody("last(0, ., 2)", NO_JOINT, (x, v) -> x.last(0, v, 2));
            nobody("last(0, 0, .)", NO_JOINT, (x, v) -> x.last(0, 0, v));
        });
        sentence("Promise 17: HANDING; -9. -1 either", () -> {
            asked(EdgeTests::rich, 3, "handing(0, 9)", x -> x.handing(0, 9));
            asked(EdgeTests::rich, -9, "handing(0, 11)", x -> x.handing(0, 11));
            nobody("handing(., 0)", NO_JOINT, (x, v) -> x.handing(v, 0));
            nobody("handing(0, .)", NO_JOINT, (x, v) -> x.handing(0, v));
            nobody("handing(., .), the same", NO_JOINT, (x, v) -> x.handing(v, v));
        });
        sentence("Promise 18: Whether it goes without an ARM. -1 any", () -> {
            asked(EdgeTests::rich, 0, "without(0, 9, 1)", x -> x.without(0, 9, 1));
            asked(EdgeTests::rich, 1, "without(0, 1, 2)", x -> x.without(0, 1, 2));
            nobody("without(., 0, 0)", NO_JOINT, (x, v) -> x.without(v, 0, 0));
            nobody("without(0, ., 0)", NO_JOINT, (x, v) -> x.without(0, v, 0));
            nobody("without(0, 0, .)", NO_ARM, (x, v) -> x.without(0, 0, v));
        });
        sentence("Promise 19: FALLS (bits). -1; -3 it is not FIXED", () -> {
            asked(EdgeTests::rich, among(4, 9), "falls(3)", x -> x.falls(3));
            nobody("falls(.)", NO_JOINT, (x, v) -> x.falls(v));
            refused(EdgeTests::rich, -3, "falls(10)", x -> x.falls(10));
            refused(EdgeTests::rich, -3, "falls(11)", x -> x.falls(11));
        });
        sentence("-1 NOBODY: the last ARM that there is, and the first that is not", () -> {
            Supplier<ArmsAlongBeam> four = EdgeTests::fourApart;
            due("arm(3, 0)", four.get().arm(3, 0), 2);
            due("step(3, 1, 11)", four.get().step(3, 1, 11), 1);
            due("unfix(3, 10)", four.get().unfix(3, 10), 1);
            due("fix(3, 10)", made("j3;j4;j6;j7;j8;j9;as0,1;as3,4;as6,7;as9,8;").fix(3, 10), 1);
            due("may(3, 0)", four.get().may(3, 0), 1 << 10);
            due("by(3)", fourShut().by(3), 7);
            due("way(3, 11)", four.get().way(3, 11), 1);
            due("come(3)", four.get().come(3), among(8, 11));
            due("last(3, 9, 11)", four.get().last(3, 9, 11), 1);
            due("without(0, 8, 3)", four.get().without(0, 8, 3), 1);
            due("rest(3)", four.get().rest(3), 0);
            refused(four, -1, "arm(4, 0)", x -> x.arm(4, 0));
            refused(four, -1, "step(4, 1, 11)", x -> x.step(4, 1, 11));
            refused(four, -1, "unfix(4, 10)", x -> x.unfix(4, 10));
            refused(four, -1, "fix(4, 10)", x -> x.fix(4, 10));
            refused(four, -1, "may(4, 0)", x -> x.may(4, 0));
            refused(four, -1, "by(4)", x -> x.by(4));
            refused(four, -1, "way(4, 11)", x -> x.way(4, 11));
            refused(four, -1, "come(4)", x -> x.come(4));
            refused(four, -1, "last(4, 9, 11)", x -> x.last(4, 9, 11));
            refused(four, -1, "without(0, 8, 4)", x -> x.without(0, 8, 4));
            refused(four, -1, "rest(4)", x -> x.rest(4));
        });
    }

    private static void promises20To24() {
        sentence("Promise 20: A number more of the ROW (0 .. 3111): how many. -4; -6 (3111; 16, too)", () -> {
            ArmsAlongBeam x = new ArmsAlongBeam();
            for (int many = 1; many <= 16; many++) {
                due("row, the number " + many, x.row(many % 2 == 0 ? 0 : 3111), many);
            }
            refused(EdgeTests::rich, -4, "row(-1)", y -> y.row(-1));
            refused(EdgeTests::rich, -4, "row(least)", y -> y.row(LEAST));
            refused(EdgeTests::rich, -6, "row(3112)", y -> y.row(3112));
            refused(EdgeTests::rich, -6, "row(greatest)", y -> y.row(GREATEST));
            refused(EdgeTests::fullRow, -6, "row(0) of 17", y -> y.row(0));
            refused(EdgeTests::fullRow, -6, "row(3112) of 17", y -> y.row(3112));
        });
        sentence("Promise 21: how many (what 0), the first (1; -9) (the ROW stays). -2; -3", () -> {
            asked(EdgeTests::rich, 1, "stood(0)", x -> x.stood(0));
            asked(EdgeTests::rich, 3, "stood(1)", x -> x.stood(1));
            for (int what : NO_WHAT) {
                refused(EdgeTests::rich, -2, "stood(" + what + ")", x -> x.stood(what));
            }
            refused(EdgeTests::fourApart, -3, "stood(0)", x -> x.stood(0));
            refused(EdgeTests::fourApart, -3, "stood(1)", x -> x.stood(1));
            refused(EdgeTests::fullRow, -3, "stood(0)", x -> x.stood(0));
        });
        sentence("Promise 22: BACK (the ROW stays). -3 likewise, or not all could stand so", () -> {
            asked(EdgeTests::rich, 1, "back()", x -> x.back());
            refused(EdgeTests::fourApart, -3, "back()", x -> x.back());
            refused(EdgeTests::fullRow, -3, "back()", x -> x.back());
            refused(() -> {
                ArmsAlongBeam x = rich();
                row(x, 3, 2, 4, 5, 7, 12);
                return x;
            }, -3, "back(), no JOINT", x -> x.back());
        });
        sentence("Promise 23: JUDGED; -9 (whichever it answers, the ROW has none then)", () -> {
            ArmsAlongBeam x = rich();
            due("judge()", x.judge(), 1);
            due("count(5)", x.count(5), 0);
            due("judge() of none", x.judge(), -9);
            due("judge() of one", judged(x, 3), -9);
            due("count(5)", x.count(5), 0);
            due("row(0)", x.row(0), 1);
            due("judge() of one", x.judge(), 0);
            due("count(5)", x.count(5), 0);
            ArmsAlongBeam y = fullRow();
            due("judge() of 16", y.judge(), 1);
            due("row(0) behind 16", y.row(0), 1);
            asked(ArmsAlongBeam::new, -9, "judge() of none", z -> z.judge());
        });
        sentence("Promise 24: The ROW has none then: how many it had", () -> {
            asked(ArmsAlongBeam::new, 0, "clear() of none", x -> x.clear());
            ArmsAlongBeam x = fullRow();
            due("clear() of 16", x.clear(), 16);
            due("count(5)", x.count(5), 0);
            due("clear() of none", x.clear(), 0);
            due("row(5)", x.row(5), 1);
            due("clear() of one", x.clear(), 1);
            ArmsAlongBeam y = made("j2;as0,1;");
            row(y, SIXTEEN);
            due("clear() of 16", y.clear(), 16);
            due("judge() of none", y.judge(), -9);
            due("stood(0), nothing of the 16 is left", stoodAs(y, 0, 0, 2), 1);
            due("back(), nothing of the 16 is left", y.back(), 1);
        });
    }

    private static void promises25To29() {
        sentence("Promise 25: REST; -9. -1", () -> {
            asked(EdgeTests::rich, 0, "rest(0)", x -> x.rest(0));
            asked(EdgeTests::rich, 1, "rest(1)", x -> x.rest(1));
            asked(() -> made("an0,1;"), -9, "rest(0)", x -> x.rest(0));
            nobody("rest(.)", NO_ARM, (x, v) -> x.rest(v));
        });
        sentence("Promise 26: SEEDS. -4; -6 60; -3 there are no ARMS", () -> {
            asked(EdgeTests::allFixed, 21, "seeds(60, 0)", x -> x.seeds(60, 0));
            asked(EdgeTests::allFixed, 1, "seeds(1, 2)", x -> x.seeds(1, 2));
            for (int n : new int[] {0, -1, LEAST}) {
                refused(EdgeTests::rich, -4, "seeds(" + n + ", 7)", x -> x.seeds(n, 7));
            }
            for (int n : new int[] {61, GREATEST}) {
                refused(EdgeTests::rich, -6, "seeds(" + n + ", 7)", x -> x.seeds(n, 7));
            }
            refused(ArmsAlongBeam::new, -3, "seeds(1, 7)", x -> x.seeds(1, 7));
            refused(ArmsAlongBeam::new, -3, "seeds(60, 7)", x -> x.seeds(60, 7));
        });
        sentence("Promise 27: THE IMAGE is taken: HOURS", () -> {
            due("the least", new ArmsAlongBeam().image(), 0);
            due("the greatest", late(rich(), 9999).image(), 9999);
        });
        sentence("Promise 28: ON from it: HOURS. -3 there is none", () -> {
            refused(ArmsAlongBeam::new, -3, "on()", x -> x.on());
            refused(EdgeTests::fourApart, -3, "on()", x -> x.on());
            asked(() -> { ArmsAlongBeam x = rich(); x.on(); return x; }, 0, "on() again", x -> x.on());
        });
        sentence("Promise 29: 0 .. 6, 11 .. 16. -9 for another what", () -> {
            int[] want = {3, 10, 5, 2, 22, 6, 7};
            for (int i = 0; i < 7; i++) {
                int what = i;
                asked(EdgeTests::rich, want[what], "count(" + what + ")", x -> x.count(what));
            }
            for (int i = 11; i <= 16; i++) {
                int what = i;
                asked(EdgeTests::rich, what == 15 ? 0 : 1, "count(" + what + ")", x -> x.count(what));
            }
            for (int what : new int[] {-1, 7, 8, 9, 10, 17, 18, LEAST, GREATEST}) {
                asked(EdgeTests::rich, -9, "count(" + what + ")", x -> x.count(what));
            }
        });
        sentence("Promise 29: full", () -> {
            ArmsAlongBeam x = late(fullOfLetters(), 9999);
            due("count(3)", x.count(3), 9999);
            due("count(6)", x.count(6), 64);
            due("count(5)", fullRow().count(5), 16);
            due("count(0)", fourApart().count(0), 4);
            due("count(1)", fourApart().count(1), 12);
        });
    }

    public static void main(String[] args) {
        joints();
        arms();
        hours();
        statements();
        faultsOfForm();
        faultsOfSense();
        kinds();
        works();
        steps();
        may();
        ways();
        handing();
        stood();
        back();
        judged();
        rest();
        seeds();
        theImage();
        refusals();
        promises1To5();
        promises6To9();
        promises10To19();
        promises20To24();
        promises25To29();
        System.out.println("edges: " + sentences + " sentences, " + (wrong == 0 ? "all answers are as due" : wrong + " answers are not as due"));
        if (wrong != 0) {
            System.exit(1);
        }
    }
}
