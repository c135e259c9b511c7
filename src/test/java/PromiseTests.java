/** For each promise: ordinary inputs, the edges that the document names, and the REFUSALS in their order. */
public final class PromiseTests {
    private static int wrong = 0;
    private static int promise = 0;

    private static void due(String call, long got, long want) {
        if (got != want) {
            wrong++;
            System.out.println("promise " + promise + ": " + call + " answered " + got + ", due is " + want);
        }
    }

    private static int tell(ArmsAlongBeam x, String text) {
        for (int i = 0; i < text.length(); i++) {
            due("letter in " + text, x.letter(text.charAt(i)), i + 1);
        }
        return x.beam();
    }

    private static ArmsAlongBeam beam(String... texts) {
        ArmsAlongBeam x = new ArmsAlongBeam();
        for (String text : texts) {
            int answer = tell(x, text);
            if (answer < 1) {
                due("beam of " + text, answer, 1);
            }
        }
        return x;
    }

    private static void row(ArmsAlongBeam x, int... numbers) {
        x.clear();
        for (int i = 0; i < numbers.length; i++) {
            due("row(" + numbers[i] + ")", x.row(numbers[i]), i + 1);
        }
    }

    private static void refusals(ArmsAlongBeam x, int nobody, int other, int state, int below, int room) {
        due("count(11)", x.count(11), nobody);
        due("count(12)", x.count(12), other);
        due("count(13)", x.count(13), state);
        due("count(14)", x.count(14), below);
        due("count(15)", x.count(15), 0);
        due("count(16)", x.count(16), room);
    }

    private static void atMostHours(ArmsAlongBeam x) {
        while (x.count(3) + 99 <= 9999) {
            x.pass(99);
        }
        if (x.count(3) < 9999) {
            x.pass(9999 - x.count(3));
        }
        due("count(3)", x.count(3), 9999);
    }

    private static void newObject() {
        ArmsAlongBeam x = new ArmsAlongBeam();
        for (int joint = 0; joint < 12; joint++) {
            due("joint(" + joint + ")", x.joint(joint), joint < 2 ? -9 : -8);
        }
        due("arm(0, 0)", x.arm(0, 0), -1);
        due("count(0)", x.count(0), 0);
        due("count(1)", x.count(1), 2);
        due("count(2)", x.count(2), 0);
        due("count(3)", x.count(3), 0);
        due("count(4)", x.count(4), 24);
        due("count(5)", x.count(5), 0);
        due("count(6)", x.count(6), 0);
        due("blocked()", x.blocked(), 0);
        due("on()", x.on(), -3);
        refusals(x, 1, 0, 1, 0, 0);
    }

    private static void letter() {
        ArmsAlongBeam x = new ArmsAlongBeam();
        due("letter(-1)", x.letter(-1), -4);
        due("letter(256)", x.letter(256), -6);
        due("letter(least)", x.letter(Integer.MIN_VALUE), -4);
        due("letter(greatest)", x.letter(Integer.MAX_VALUE), -6);
        due("count(6)", x.count(6), 0);
        for (int i = 0; i < 64; i++) {
            due("letter " + i, x.letter(i % 2 == 0 ? 0 : 255), i + 1);
        }
        due("letter 65", x.letter('j'), -6);
        due("letter(-1) at 64", x.letter(-1), -4);
        due("letter(256) at 64", x.letter(256), -6);
        due("count(6)", x.count(6), 64);
        refusals(x, 0, 0, 0, 3, 4);
    }

    private static void fault(String text, int want) {
        ArmsAlongBeam x = beam("j2;j3;aa2,3;h7;d5;");
        due("beam of " + text, tell(x, text), want);
        due("count(6) behind " + text, x.count(6), 0);
        due("count(0) behind " + text, x.count(0), 1);
        due("count(1) behind " + text, x.count(1), 4);
        due("count(2) behind " + text, x.count(2), 7);
        due("count(4) behind " + text, x.count(4), 23);
        refusals(x, 0, 0, 0, 0, 0);
    }

    private static void beamForm() {
        fault("", -1000);
        fault(";", -1000);
        fault("J2;", -1000);
        fault("j", -1001);
        fault("j;", -1001);
        fault("j4", -1002);
        fault("j04", -1003);
        fault("j004;", -1003);
        fault("j4;;", -1003);
        fault("j4;x", -1003);
        fault("j4 ;", -1002);
        fault("h", -1001);
        fault("hx;", -1001);
        fault("d", -1001);
        fault("d1,2;", -1002);
        fault("a", -1001);
        fault("aj0,1;", -1001);
        fault("aa", -1002);
        fault("aa,1;", -1002);
        fault("aa0", -1003);
        fault("aa0;", -1003);
        fault("aa00", -1004);
        fault("aa000,1;", -1004);
        fault("aa0,", -1004);
        fault("aa0,;", -1004);
        fault("aa0,1", -1005);
        fault("aa0,01", -1006);
        fault("aa0,011;", -1006);
        fault("j99;j4;aa9,1", -1012);
        fault("j99;h99;d", -1009);
    }

    private static void beamSense() {
        fault("j12;", -2000);
        fault("j99;", -2000);
        fault("h24;", -2000);
        fault("d24;", -2000);
        fault("aa12,1;", -2000);
        fault("aa0,99;", -2000);
        fault("aa0,0;", -2000);
        fault("aa0,4;", -2000);
        fault("j4;aa0,2;", -2003);
        fault("j4;aa4,3;", -2003);
        fault("j4;j5;aa1,5;", -2006);
        fault("j4;al1,4;j4;", -2009);
        fault("j2;", -2000);
        fault("j4;j3;", -2003);
        fault("j04;j04;aa1,4;", -2008);
        fault("as0,1;j4;j5;as4,5;j6;j7;as6,7;j8;j9;as8,9;", -2036);
        fault("h0;d0;j0;aa0,1;", -2009);
    }

    private static void beamKinds() {
        String letters = "alswkn";
        int[] reaches = {3, 4, 2, 3, 4, 3};
        for (int kind = 0; kind < 6; kind++) {
            for (int far = 1; far < 12; far++) {
                ArmsAlongBeam x = beam("j2;j3;j4;j5;j6;j7;j8;j9;j10;j11;");
                String text = "a" + letters.charAt(kind) + "0," + far + ";";
                boolean fits = far <= reaches[kind];
                due("beam of " + text, tell(x, text), fits ? 1 : -2000);
                due("arm(0, 0) of " + text, x.arm(0, 0), fits ? kind : -1);
                due("arm(0, 2) of " + text, x.arm(0, 2), fits ? far : -1);
                due("arm(0, 3) of " + text, x.arm(0, 3), fits ? reaches[kind] : -1);
            }
        }
    }

    private static void beam() {
        ArmsAlongBeam x = new ArmsAlongBeam();
        due("beam()", x.beam(), -1000);
        due("beam", tell(x, "j02;j3;j3;h09;d9;d23;d9;aw2,00;"), 8);
        due("count(6)", x.count(6), 0);
        due("joint(2)", x.joint(2), 0);
        due("joint(0)", x.joint(0), 1);
        due("joint(3)", x.joint(3), -8);
        due("count(2)", x.count(2), 9);
        due("count(3)", x.count(3), 0);
        due("count(4)", x.count(4), 23);
        due("beam", tell(x, "j1;j11;h23;"), 3);
        due("joint(1)", x.joint(1), -8);
        due("joint(11)", x.joint(11), -9);
        due("64 letters", tell(x, "j3;j3;j3;j3;j3;j3;j3;j3;j3;j3;j3;j3;j3;j3;j3;j3;j3;j3;j3;j3;j03;"), 21);
        due("joint(3)", x.joint(3), -9);
        due("64 letters that lack", tell(x, "j3;j3;j3;j3;j3;j3;j3;j3;j3;j3;j3;j3;j3;j3;j3;j3;j3;j3;j3;j3;j3;j"), -1064);
        refusals(x, 0, 0, 0, 0, 0);
        beamForm();
        beamSense();
        beamKinds();
    }

    private static void arm() {
        ArmsAlongBeam x = beam("j2;j3;j4;j5;j6;aw0,3;an5,2;ak6,4;d3;h2;");
        int[][] want = {{3, 0, 3, 3, 1}, {5, 5, 2, 3, 0}, {4, 6, 4, 4, 1}};
        for (int arm = 0; arm < 3; arm++) {
            for (int what = 0; what < 5; what++) {
                due("arm(" + arm + ", " + what + ")", x.arm(arm, what), want[arm][what]);
            }
        }
        x.pass(1);
        due("arm(0, 4) in the dark", x.arm(0, 4), 0);
        due("arm(1, 4) in the dark", x.arm(1, 4), 1);
        due("arm(2, 4) in the dark", x.arm(2, 4), 1);
        due("arm(3, 0)", x.arm(3, 0), -1);
        due("arm(3, 9)", x.arm(3, 9), -1);
        due("arm(-1, 9)", x.arm(-1, 9), -1);
        due("arm(least, 0)", x.arm(Integer.MIN_VALUE, 0), -1);
        due("arm(greatest, 0)", x.arm(Integer.MAX_VALUE, 0), -1);
        due("arm(0, 5)", x.arm(0, 5), -2);
        due("arm(0, -1)", x.arm(0, -1), -2);
        refusals(x, 5, 2, 0, 0, 0);
    }

    private static void joint() {
        ArmsAlongBeam x = beam("j2;j3;j11;al3,1;as2,0;");
        int[] want = {11, 1, 10, 0, -8, -8, -8, -8, -8, -8, -8, -9};
        for (int joint = 0; joint < 12; joint++) {
            due("joint(" + joint + ")", x.joint(joint), want[joint]);
        }
        due("joint(12)", x.joint(12), -1);
        due("joint(-1)", x.joint(-1), -1);
        due("joint(least)", x.joint(Integer.MIN_VALUE), -1);
        refusals(x, 3, 0, 0, 0, 0);
    }

    private static void step() {
        ArmsAlongBeam x = beam("j2;j3;j4;j5;j6;aa0,1;ak5,6;d1;d2;");
        due("onto its own", x.step(0, 0, 0), -3);
        due("onto its other", x.step(0, 0, 1), -3);
        due("onto another's", x.step(0, 1, 5), -3);
        due("too far", x.step(0, 1, 4), -3);
        due("not fixed", x.step(1, 1, 7), -3);
        due("a keeper's hand 0", x.step(1, 0, 4), -3);
        due("count(2)", x.count(2), 0);
        due("reach from the other, not from itself", x.step(0, 0, 4), 1);
        due("count(2)", x.count(2), 1);
        due("joint(0)", x.joint(0), -9);
        due("joint(4)", x.joint(4), 0);
        due("a keeper's hand 1", x.step(1, 1, 3), 2);
        due("back over all", x.step(0, 1, 2), 3);
        due("step(2, 0, 0)", x.step(2, 0, 0), -1);
        due("step(-1, 0, 0)", x.step(-1, 0, 0), -1);
        due("step(0, 2, 0)", x.step(0, 2, 0), -1);
        due("step(0, -1, 0)", x.step(0, -1, 0), -1);
        due("step(0, 0, 12)", x.step(0, 0, 12), -1);
        due("step(0, 0, -1)", x.step(0, 0, -1), -1);
        refusals(x, 6, 0, 6, 0, 0);
        atMostHours(x);
        due("can not at 9999", x.step(0, 1, 8), -3);
        due("at 9999", x.step(0, 1, 1), -6);
        due("joint(1)", x.joint(1), -9);
        refusals(x, 6, 0, 7, 0, 1);
    }

    private static void stepByLight() {
        ArmsAlongBeam x = beam("j2;j3;j4;j5;aw0,1;an4,5;d1;h23;");
        due("by night in light", x.step(1, 1, 3), -3);
        due("lit in light", x.step(0, 1, 2), 1);
        due("HOUR is 0 behind 23", x.count(2), 0);
        due("lit in light", x.step(0, 1, 1), 2);
        due("lit in the dark", x.step(0, 1, 2), -3);
        due("by night in the dark", x.step(1, 1, 3), 3);
        due("by night in light", x.step(1, 1, 5), -3);
    }

    private static void fix() {
        ArmsAlongBeam x = beam("j2;j4;ak0,2;aw1,4;d1;");
        due("is fixed", x.fix(1, 0), -3);
        due("not beside", x.fix(0, 7), -3);
        due("beside another's", x.fix(0, 5), -3);
        due("fix(0, 3)", x.fix(0, 3), 1);
        due("joint(3)", x.joint(3), -9);
        due("in the dark", x.fix(1, 5), -3);
        due("joint(5)", x.joint(5), -8);
        due("pass(1)", x.pass(1), 2);
        due("fix(1, 5)", x.fix(1, 5), 3);
        due("joint(5)", x.joint(5), -9);
        due("count(2)", x.count(2), 3);
        due("fix(2, 12)", x.fix(2, 12), -1);
        due("fix(-1, 3)", x.fix(-1, 3), -1);
        due("fix(0, 12)", x.fix(0, 12), -1);
        due("fix(0, -1)", x.fix(0, -1), -1);
        refusals(x, 4, 0, 4, 0, 0);
        due("unfix(0, 3)", x.unfix(0, 3), 4);
        atMostHours(x);
        due("can not at 9999", x.fix(0, 9), -3);
        due("at 9999", x.fix(0, 3), -6);
        due("joint(3)", x.joint(3), -8);
        refusals(x, 4, 0, 5, 0, 1);
    }

    private static void unfix() {
        ArmsAlongBeam x = beam("j2;j3;j4;j5;j8;aa1,3;an5,8;d1;");
        due("does not work", x.unfix(1, 4), -3);
        due("not fixed", x.unfix(1, 7), -3);
        due("not beside", x.unfix(0, 5), -3);
        due("a hand there", x.unfix(0, 3), -3);
        due("unfix(0, 0)", x.unfix(0, 0), 1);
        due("joint(0)", x.joint(0), -8);
        due("unfix(1, 4)", x.unfix(1, 4), 2);
        due("joint(4)", x.joint(4), -8);
        due("unfix(0, 2)", x.unfix(0, 2), 3);
        due("count(1)", x.count(1), 4);
        due("unfix(2, 0)", x.unfix(2, 0), -1);
        due("unfix(-1, 0)", x.unfix(-1, 0), -1);
        due("unfix(0, 12)", x.unfix(0, 12), -1);
        due("unfix(0, -1)", x.unfix(0, -1), -1);
        refusals(x, 4, 0, 4, 0, 0);
        due("fix(0, 0)", x.fix(0, 0), 4);
        atMostHours(x);
        due("can not at 9999", x.unfix(0, 1), -3);
        due("at 9999", x.unfix(0, 0), -6);
        due("joint(0)", x.joint(0), -9);
        ArmsAlongBeam y = beam("j2;j3;j4;aa1,3;as2,4;");
        due("beside, with another's hand", y.unfix(0, 2), -3);
        due("beside, with another's hand", y.unfix(0, 4), -3);
    }

    private static void pass() {
        ArmsAlongBeam x = beam("h5;");
        due("pass(0)", x.pass(0), -4);
        due("pass(least)", x.pass(Integer.MIN_VALUE), -4);
        due("pass(100)", x.pass(100), -6);
        due("pass(greatest)", x.pass(Integer.MAX_VALUE), -6);
        due("pass(18)", x.pass(18), 23);
        due("pass(1)", x.pass(1), 0);
        due("pass(99)", x.pass(99), 3);
        due("count(3)", x.count(3), 118);
        for (int i = 0; i < 99; i++) {
            due("pass(99)", x.pass(99), (3 + 99 * (i + 1)) % 24);
        }
        due("count(3)", x.count(3), 9919);
        due("above 9999", x.pass(81), -6);
        due("pass(80)", x.pass(80), (3 + 99 * 99 + 80) % 24);
        due("above 9999", x.pass(1), -6);
        due("below at 9999", x.pass(0), -4);
        due("count(3)", x.count(3), 9999);
        refusals(x, 0, 0, 0, 3, 4);
    }

    private static void may() {
        ArmsAlongBeam x = beam("j2;j3;j4;j6;j7;j8;j9;aa0,3;ak4,8;an2,1;");
        due("may(0, 0)", x.may(0, 0), 1 << 6);
        due("may(0, 1)", x.may(0, 1), 0);
        due("may(1, 0)", x.may(1, 0), 0);
        due("may(1, 1)", x.may(1, 1), 1 << 6 | 1 << 7);
        due("may(2, 0) in light", x.may(2, 0), 0);
        due("beam", tell(x, "d0;j5;"), 2);
        due("may(2, 0) in the dark", x.may(2, 0), 0);
        due("may(2, 1) in the dark", x.may(2, 1), 1 << 5);
        due("may(3, 0)", x.may(3, 0), -1);
        due("may(-1, 0)", x.may(-1, 0), -1);
        due("may(0, 2)", x.may(0, 2), -1);
        due("may(0, -1)", x.may(0, -1), -1);
        refusals(x, 4, 0, 0, 0, 0);
    }

    private static void blocked() {
        ArmsAlongBeam x = beam("j2;j3;aa0,1;an2,3;");
        due("in light", x.blocked(), 1);
        x.beam();
        due("beam", tell(x, "d0;"), 1);
        due("in the dark", x.blocked(), 3);
        due("beam", tell(x, "j6;"), 1);
        due("blocked()", x.blocked(), 1);
        due("beam", tell(x, "j4;"), 1);
        due("blocked()", x.blocked(), 0);
        ArmsAlongBeam y = beam("j2;ak2,1;");
        due("a keeper that may", y.blocked(), 0);
        ArmsAlongBeam z = beam("j2;j6;j0;ak6,2;");
        due("only a keeper's hand 0 could", z.blocked(), 1);
        due("a long one's hand 0 can", beam("j2;j6;j0;al6,2;").blocked(), 0);
        due("nobody", new ArmsAlongBeam().blocked(), 0);
    }

    private static void by() {
        ArmsAlongBeam x = beam("j2;j3;j4;j5;as0,1;al2,5;as3,4;");
        due("blocked()", x.blocked(), 7);
        due("by(0)", x.by(0), 6);
        due("by(1)", x.by(1), 5);
        due("by(2)", x.by(2), 3);
        due("by(3)", x.by(3), -1);
        due("by(-1)", x.by(-1), -1);
        due("beam", tell(x, "j6;"), 1);
        due("may", x.by(1), -3);
        refusals(x, 2, 0, 1, 0, 0);
        ArmsAlongBeam y = beam("aw0,1;d0;");
        due("does not work", y.by(0), -3);
        ArmsAlongBeam z = beam("j2;j3;aa0,1;an2,3;");
        due("by one that does not work now", z.by(0), 2);
        ArmsAlongBeam alone = beam("aa0,1;");
        due("by nobody", alone.by(0), 0);
    }

    private static void closedIn() {
        ArmsAlongBeam x = beam("j2;j3;j4;j5;as0,1;al2,5;as3,4;");
        due("closedIn(0)", x.closedIn(0), 3);
        due("closedIn(1)", x.closedIn(1), 1);
        due("beam", tell(x, "j6;"), 1);
        due("closedIn(0)", x.closedIn(0), 0);
        due("closedIn(1)", x.closedIn(1), -9);
        due("closedIn(2)", x.closedIn(2), -2);
        due("closedIn(-1)", x.closedIn(-1), -2);
        refusals(x, 0, 2, 0, 0, 0);
        ArmsAlongBeam y = beam("j6;j7;j8;j9;aa0,1;an6,7;as8,9;");
        due("one that does not work is not closed in", y.closedIn(0), 0);
        due("beam", tell(y, "d0;"), 1);
        due("closedIn(0)", y.closedIn(0), 1);
        due("closedIn(1)", y.closedIn(1), 12);
        due("only the lesser BY the other", beam("j4;j5;al0,1;as4,5;").closedIn(0), 0);
        due("only the other BY the lesser", beam("j4;j5;as4,5;al0,1;").closedIn(0), 0);
    }

    private static void way() {
        ArmsAlongBeam x = beam("j2;j3;j4;j5;j6;j7;j11;as1,0;as5,6;");
        due("way(0, 1)", x.way(0, 1), 0);
        due("way(0, 0)", x.way(0, 0), 0);
        due("way(0, 2)", x.way(0, 2), 1);
        due("way(0, 3)", x.way(0, 3), 1);
        due("way(0, 4)", x.way(0, 4), 2);
        due("another's", x.way(0, 5), -9);
        due("behind another's", x.way(0, 7), -9);
        due("not fixed", x.way(0, 8), -9);
        due("too far", x.way(1, 11), -9);
        due("way(1, 2)", x.way(1, 2), 2);
        due("way(2, 0)", x.way(2, 0), -1);
        due("way(-1, 0)", x.way(-1, 0), -1);
        due("way(0, 12)", x.way(0, 12), -1);
        due("way(0, -1)", x.way(0, -1), -1);
        refusals(x, 4, 0, 0, 0, 0);
        ArmsAlongBeam y = beam("j2;j3;j4;j5;j6;ak1,0;d0;");
        due("a keeper reaches", y.way(0, 5), 1);
        due("no farther", y.way(0, 6), -9);
        ArmsAlongBeam z = beam("j2;j3;j4;aw0,1;d0;");
        due("HOURS aside", z.way(0, 4), 1);
        atMostHours(z);
        due("HOURS aside", z.way(0, 4), 1);
    }

    private static void come() {
        ArmsAlongBeam x = beam("j2;j3;j4;j5;j6;j7;j11;as1,0;ak5,6;");
        due("come(0)", x.come(0), 0b11111);
        due("come(1)", x.come(1), 1 << 2 | 1 << 3 | 1 << 4 | 1 << 5 | 1 << 6 | 1 << 7);
        due("come(2)", x.come(2), -1);
        due("come(-1)", x.come(-1), -1);
        refusals(x, 2, 0, 0, 0, 0);
        ArmsAlongBeam z = beam("j4;j7;j11;an0,1;");
        due("HOURS aside", z.come(0), 1 | 1 << 1 | 1 << 4 | 1 << 7);
        due("beam", tell(z, "j9;"), 1);
        due("HOURS aside", z.come(0), 1 | 1 << 1 | 1 << 4 | 1 << 7 | 1 << 9 | 1 << 11);
    }

    private static void last() {
        ArmsAlongBeam x = beam("j2;j3;j4;as0,1;");
        due("as it stands", x.last(0, 0, 1), 0);
        due("one step", x.last(0, 2, 1), 1);
        due("hands changed", x.last(0, 1, 0), 3);
        due("two steps", x.last(0, 2, 3), 2);
        due("onto one", x.last(0, 1, 1), -9);
        due("too far apart", x.last(0, 0, 3), -9);
        due("not fixed", x.last(0, 4, 5), -9);
        due("last(1, 0, 1)", x.last(1, 0, 1), -1);
        due("last(-1, 0, 1)", x.last(-1, 0, 1), -1);
        due("last(0, 12, 1)", x.last(0, 12, 1), -1);
        due("last(0, -1, 1)", x.last(0, -1, 1), -1);
        due("last(0, 0, 12)", x.last(0, 0, 12), -1);
        due("last(0, 0, -1)", x.last(0, 0, -1), -1);
        refusals(x, 6, 0, 0, 0, 0);
        ArmsAlongBeam y = beam("j2;j3;j4;ak0,1;");
        due("a keeper's hands changed", y.last(0, 1, 0), -9);
        due("a keeper", y.last(0, 0, 4), 1);
    }

    private static void handing() {
        ArmsAlongBeam x = beam("j2;j3;j4;j5;j6;j7;j8;j9;", "aa0,1;an3,4;as7,6;al9,8;");
        due("the same", x.handing(11, 11), 0);
        due("one arm", x.handing(0, 2), 1);
        due("beside on either side", x.handing(2, 5), 1);
        due("two arms", x.handing(0, 5), 2);
        due("2 apart", x.handing(1, 8), 3);
        due("to the end", x.handing(0, 10), 4);
        due("and back", x.handing(10, 0), 4);
        due("not beside", x.handing(0, 11), -9);
        due("not beside", x.handing(11, 0), -9);
        due("handing(12, 0)", x.handing(12, 0), -1);
        due("handing(-1, 0)", x.handing(-1, 0), -1);
        due("handing(0, 12)", x.handing(0, 12), -1);
        due("handing(0, -1)", x.handing(0, -1), -1);
        due("handing(12, 12)", x.handing(12, 12), -1);
        refusals(x, 5, 0, 0, 0, 0);
        ArmsAlongBeam y = beam("j4;j5;aa0,1;as4,5;");
        due("3 apart", y.handing(0, 5), -9);
        due("each its own", y.handing(5, 3), 1);
        due("nobody", new ArmsAlongBeam().handing(0, 1), -9);
    }

    private static void without() {
        ArmsAlongBeam x = beam("j2;j3;j4;j5;aa0,1;as2,3;al4,5;");
        due("through it alone", x.without(0, 5, 1), 0);
        due("it is not the way", x.without(0, 3, 2), 1);
        due("another takes it", x.without(4, 5, 2), 0);
        due("another takes it", x.without(3, 4, 2), 1);
        due("the same", x.without(7, 7, 0), 1);
        due("it does not go at all", x.without(0, 11, 0), 0);
        due("without(12, 0, 0)", x.without(12, 0, 0), -1);
        due("without(-1, 0, 0)", x.without(-1, 0, 0), -1);
        due("without(0, 12, 0)", x.without(0, 12, 0), -1);
        due("without(0, -1, 0)", x.without(0, -1, 0), -1);
        due("without(0, 0, 3)", x.without(0, 0, 3), -1);
        due("without(0, 0, -1)", x.without(0, 0, -1), -1);
        refusals(x, 6, 0, 0, 0, 0);
    }

    private static void falls() {
        ArmsAlongBeam x = beam("j2;j3;j5;j6;aa1,2;");
        due("falls(0)", x.falls(0), 2 | 4 | 8 | 32 | 64);
        due("falls(1), with a HAND there", x.falls(1), 4 | 8 | 32 | 64);
        due("falls(3)", x.falls(3), 32 | 64);
        due("falls(5)", x.falls(5), 64);
        due("falls(6)", x.falls(6), 32);
        due("falls(4)", x.falls(4), -3);
        due("falls(11)", x.falls(11), -3);
        due("falls(12)", x.falls(12), -1);
        due("falls(-1)", x.falls(-1), -1);
        due("joint(1)", x.joint(1), 0);
        refusals(x, 2, 0, 2, 0, 0);
        due("beam", tell(x, "j0;"), 1);
        due("JOINT 0 is not", x.falls(3), 2 | 4 | 32 | 64);
        due("JOINT 0 is not", x.falls(0), -3);
    }

    private static void row() {
        ArmsAlongBeam x = new ArmsAlongBeam();
        due("row(-1)", x.row(-1), -4);
        due("row(3112)", x.row(3112), -6);
        due("row(least)", x.row(Integer.MIN_VALUE), -4);
        due("row(greatest)", x.row(Integer.MAX_VALUE), -6);
        for (int i = 0; i < 16; i++) {
            due("row " + i, x.row(i % 2 == 0 ? 0 : 3111), i + 1);
        }
        due("row 17", x.row(0), -6);
        due("row(-1) at 16", x.row(-1), -4);
        due("count(5)", x.count(5), 16);
        refusals(x, 0, 0, 0, 3, 3);
    }

    private static void stood() {
        ArmsAlongBeam x = beam("j2;j3;j4;j5;aa0,1;ak3,5;");
        due("no row", x.stood(0), -3);
        stoodAs(x, -9, 0, 1, 3, 5);
        stoodAs(x, 2, 2, 1, 3, 5);
        stoodAs(x, 4, 4, 1, 3, 5);
        stoodAs(x, 102, 0, 2, 3, 5);
        stoodAs(x, 1104, 0, 1, 3, 4);
        stoodAs(x, -9, 0, 1, 4, 5);
        stoodAs(x, -9, 1, 0, 3, 5);
        stoodAs(x, -9, 2, 1, 3, 4);
        stoodAs(x, -9, 0, 3, 3, 5);
        stoodAs(x, -9, 0, 6, 3, 5);
        stoodAs(x, -9, 0, 4, 3, 5);
        stoodAs(x, -9, 0, 1, 3, 3111);
        stoodAs(x, -9, 0, 1, 3, 33);
        due("count(5)", x.count(5), 4);
        due("stood(2)", x.stood(2), -2);
        due("stood(-1)", x.stood(-1), -2);
        x.row(0);
        due("too long", x.stood(0), -3);
        due("what first", x.stood(2), -2);
        refusals(x, 0, 3, 2, 0, 0);
        ArmsAlongBeam y = beam("j2;aw0,1;d0;");
        stoodAs(y, 2, 2, 1);
        ArmsAlongBeam z = new ArmsAlongBeam();
        due("nobody", z.stood(0), 0);
        due("nobody", z.stood(1), -9);
    }

    private static void stoodAs(ArmsAlongBeam x, int first, int... hands) {
        row(x, hands);
        String call = java.util.Arrays.toString(hands);
        due("stood(0) " + call, x.stood(0), first == -9 ? 0 : 1);
        due("stood(1) " + call, x.stood(1), first);
    }

    private static void back() {
        ArmsAlongBeam x = beam("j2;j3;j4;j5;j6;aa0,1;ak3,5;");
        due("no row", x.back(), -3);
        backFrom(x, 0, 0, 1, 3, 5);
        backFrom(x, 1, 4, 1, 3, 5);
        backFrom(x, 1, 0, 2, 3, 5);
        backFrom(x, 1, 0, 1, 3, 6);
        backFrom(x, 0, 0, 1, 4, 5);
        backFrom(x, 0, 1, 0, 3, 5);
        backFrom(x, 0, 4, 1, 3, 6);
        backFrom(x, -3, 5, 1, 3, 5);
        backFrom(x, -3, 0, 4, 3, 5);
        backFrom(x, -3, 1, 1, 3, 5);
        backFrom(x, -3, 0, 1, 3, 7);
        backFrom(x, -3, 0, 1, 3, 12);
        backFrom(x, -3, 0, 1, 3, 3111);
        due("count(5)", x.count(5), 4);
        row(x, 0, 1, 3);
        due("too short", x.back(), -3);
        row(x, 0, 1, 3, 5, 0);
        due("too long", x.back(), -3);
        due("joint(5)", x.joint(5), 11);
        refusals(x, 0, 0, 9, 0, 0);
        ArmsAlongBeam y = beam("j2;an0,1;");
        backFrom(y, 1, 0, 2);
        ArmsAlongBeam z = beam("j0;j2;j3;j4;j5;as1,2;");
        backFrom(z, 1, 1, 3);
        backFrom(z, -3, 0, 2);
        backFrom(z, 0, 4, 5);
    }

    private static void backFrom(ArmsAlongBeam x, int want, int... hands) {
        row(x, hands);
        due("back() " + java.util.Arrays.toString(hands), x.back(), want);
    }

    private static void judge() {
        ArmsAlongBeam x = beam("j2;j3;j4;aa0,1;aw3,4;d1;h0;");
        due("empty", x.judge(), -9);
        judged(x, 1, 2, 101, 0);
        judged(x, 0, 0);
        judged(x, -9, 2, 100);
        judged(x, 2, 2, 100, 1002);
        judged(x, 1, 102, 1101);
        judged(x, -9, 102, 101, 1102);
        judged(x, 1, 1102, 1104, 2);
        judged(x, 0, 2002, 2);
        judged(x, 0, 200, 2);
        judged(x, 0, 12, 2);
        judged(x, 0, 902, 2);
        judged(x, 1, 2, 2);
        due("joint(0)", x.joint(0), 0);
        due("count(2)", x.count(2), 0);
        due("count(3)", x.count(3), 0);
        refusals(x, 0, 0, 0, 0, 0);
        ArmsAlongBeam y = beam("j2;aw0,1;d0;h23;");
        judged(y, 1, 102, 101, 102);
        due("stands as before", y.joint(1), 1);
        ArmsAlongBeam z = beam("j2;j3;ak0,1;");
        judged(z, 16 - 1, 102, 101, 102, 101, 102, 101, 102, 101, 102, 101, 102, 101, 102, 101, 102, 3);
    }

    private static void judged(ArmsAlongBeam x, int want, int... steps) {
        row(x, steps);
        due("judge() " + java.util.Arrays.toString(steps), x.judge(), want);
        due("count(5) behind judge", x.count(5), 0);
    }

    private static void clear() {
        ArmsAlongBeam x = new ArmsAlongBeam();
        due("clear()", x.clear(), 0);
        row(x, 5, 6, 7);
        due("clear()", x.clear(), 3);
        due("count(5)", x.count(5), 0);
        due("row(9)", x.row(9), 1);
        due("clear()", x.clear(), 1);
    }

    private static void rest() {
        ArmsAlongBeam x = beam("j2;j3;j4;j5;aw0,1;an2,3;as4,5;", "h22;d22;d23;d0;");
        due("lit", x.rest(0), 3);
        due("by night", x.rest(1), 0);
        due("always", x.rest(2), 0);
        x.pass(3);
        due("lit", x.rest(0), 0);
        due("by night", x.rest(1), 21);
        due("beam", tell(x, "d22;d23;d0;"), 3);
        due("no dark", x.rest(1), -9);
        due("beam", tell(x, "d0;"), 1);
        due("by night", x.rest(1), 23);
        due("rest(3)", x.rest(3), -1);
        due("rest(-1)", x.rest(-1), -1);
        refusals(x, 2, 0, 0, 0, 0);
        ArmsAlongBeam y = beam("d0;d1;d2;d3;d4;d5;d6;d7;d8;d9;d10;d11;d12;", "d13;d14;d15;d16;d17;d18;d19;d20;d21;d22;d23;aw0,1;");
        due("no light", y.rest(0), -9);
        due("count(4)", y.count(4), 0);
    }

    private static int z;

    private static int draw(int below) {
        z = z * 1664525 + 1013904223;
        return (int) ((z & 0x7fffffffL) / 256 % below);
    }

    private static void seeds() {
        ArmsAlongBeam nobody = new ArmsAlongBeam();
        due("seeds(0, 0)", nobody.seeds(0, 0), -4);
        due("seeds(61, 0)", nobody.seeds(61, 0), -6);
        due("seeds(1, 0)", nobody.seeds(1, 0), -3);
        due("seeds(greatest, 0)", nobody.seeds(Integer.MAX_VALUE, 0), -6);
        refusals(nobody, 0, 0, 1, 1, 2);
        int all = 0;
        for (int seed : new int[] {0, 1, 7, -1, 99, Integer.MIN_VALUE, Integer.MAX_VALUE, 123456789}) {
            // The same STEPS made for good on another object, with an HOUR passed where one can not be.
            ArmsAlongBeam x = beam("j2;j3;j4;j5;j6;j7;j8;aa0,1;aw4,5;an8,7;", "d1;d3;d5;d7;d9;d11;d13;d15;h23;");
            ArmsAlongBeam made = beam("j2;j3;j4;j5;j6;j7;j8;aa0,1;aw4,5;an8,7;", "d1;d3;d5;d7;d9;d11;d13;d15;h23;");
            z = seed;
            int could = 0;
            for (int i = 0; i < 60; i++) {
                if (made.step(draw(3), draw(2), draw(12)) > 0) {
                    could++;
                } else {
                    made.pass(1);
                }
            }
            due("seeds(60, " + seed + ")", x.seeds(60, seed), could);
            all += could;
            due("in mind", x.count(3), 0);
            due("in mind", x.count(2), 23);
            due("in mind", x.joint(0), 0);
        }
        due("some could", all > 20 ? 1 : 0, 1);
    }

    private static void image() {
        ArmsAlongBeam x = beam("j2;j3;j4;aa0,1;h5;d5;d6;");
        x.pass(7);
        due("image()", x.image(), 7);
        x.letter('j');
        row(x, 1, 2);
        x.joint(12);
        due("step", x.step(0, 1, 2), 8);
        due("fix", x.fix(0, 1), -3);
        due("unfix", x.unfix(0, 3), 9);
        x.beam();
        due("beam", tell(x, "j3;as3,4;h20;d8;"), 4);
        x.letter('j');
        due("on()", x.on(), 7);
        due("count(0)", x.count(0), 1);
        due("count(1)", x.count(1), 5);
        due("count(2)", x.count(2), 12);
        due("count(3)", x.count(3), 7);
        due("count(4)", x.count(4), 22);
        due("the ROW stays", x.count(5), 2);
        due("the letters stay", x.count(6), 1);
        due("joint(1)", x.joint(1), 1);
        due("joint(3)", x.joint(3), -9);
        due("joint(4)", x.joint(4), -9);
        refusals(x, 1, 0, 1, 0, 0);
    }

    private static void on() {
        ArmsAlongBeam x = beam("j2;j3;aa0,1;");
        due("on()", x.on(), -3);
        due("image()", x.image(), 0);
        due("step", x.step(0, 1, 2), 1);
        due("on()", x.on(), 0);
        due("joint(1)", x.joint(1), 1);
        due("step", x.step(0, 1, 3), 1);
        due("on() again", x.on(), 0);
        due("joint(1)", x.joint(1), 1);
        due("step", x.step(0, 1, 3), 1);
        due("image() anew", x.image(), 1);
        due("step", x.step(0, 1, 2), 2);
        due("on()", x.on(), 1);
        due("joint(3)", x.joint(3), 1);
        refusals(x, 0, 0, 1, 0, 0);
    }

    private static void count() {
        ArmsAlongBeam x = beam("j2;j5;as0,1;h3;d3;d4;d5;");
        x.pass(2);
        x.letter('a');
        x.letter('b');
        row(x, 1, 2, 3);
        int[] want = {1, 4, 5, 2, 21, 3, 2};
        for (int what = 0; what < want.length; what++) {
            due("count(" + what + ")", x.count(what), want[what]);
        }
        for (int what : new int[] {-1, 7, 8, 9, 10, 17, Integer.MIN_VALUE, Integer.MAX_VALUE}) {
            due("count(" + what + ")", x.count(what), -9);
        }
        refusals(x, 0, 0, 0, 0, 0);
        x.joint(-1);
        x.arm(0, 7);
        x.on();
        x.pass(0);
        x.row(4000);
        x.row(4000);
        refusals(x, 1, 1, 1, 1, 2);
    }

    public static void main(String[] args) {
        Runnable[] promises = {
            PromiseTests::newObject, PromiseTests::letter, PromiseTests::beam, PromiseTests::arm, PromiseTests::joint,
            () -> { step(); stepByLight(); }, PromiseTests::fix, PromiseTests::unfix, PromiseTests::pass,
            PromiseTests::may, PromiseTests::blocked, PromiseTests::by, PromiseTests::closedIn, PromiseTests::way,
            PromiseTests::come, PromiseTests::last, PromiseTests::handing, PromiseTests::without, PromiseTests::falls,
            PromiseTests::row, PromiseTests::stood, PromiseTests::back, PromiseTests::judge, PromiseTests::clear,
            PromiseTests::rest, PromiseTests::seeds, PromiseTests::image, PromiseTests::on, PromiseTests::count};
        for (Runnable each : promises) {
            promise++;
            each.run();
        }
        System.out.println(wrong == 0 ? "promises: all answers are as due" : wrong + " answers are not as due");
        if (wrong != 0) {
            System.exit(1);
        }
    }
}
