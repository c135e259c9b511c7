/** Arms that walk hand over hand along a beam of joints; ../shared/DOC.md says what each call answers. */
public final class ArmsAlongBeam {
    private static final int JOINTS = 12;
    private static final int FIRST_FIXED = 3;
    private static final int MOST_ARMS = 4;
    private static final int MOST_HANDS = 8;
    private static final int DAY = 24;
    private static final int ALL_HOURS = (1 << DAY) - 1;
    private static final int MOST_HOURS = 9999;
    private static final int MOST_PASS = 99;
    private static final int MOST_LETTERS = 64;
    private static final int LAST_LETTER = 255;
    private static final int MOST_ROW = 16;
    private static final int LAST_ROW = 3111;
    private static final int MOST_SEEDS = 60;
    private static final int WITHOUT_SIGN = 0x7fffffff;

    private static final int NOBODY = -1;
    private static final int OTHER = -2;
    private static final int STATE = -3;
    private static final int BELOW = -4;
    private static final int ROOM = -6;
    private static final int NOT_FIXED = -8;
    private static final int NONE = -9;
    private static final int FAULT_OF_FORM = -1000;
    private static final int FAULT_OF_SENSE = -2000;

    private static final int ARM_REACH = 3;
    private static final int LONG_REACH = ARM_REACH + 1;
    private static final int SHORT_REACH = ARM_REACH - 1;
    private static final int ALWAYS = 0;
    private static final int IN_LIGHT = 1;
    private static final int IN_DARK = 2;
    private static final int KEEPER = 4;

    private static final int[] KIND_LETTERS = {'a', 'l', 's', 'w', 'k', 'n'};
    private static final int[] REACHES = {ARM_REACH, LONG_REACH, SHORT_REACH, ARM_REACH, LONG_REACH, ARM_REACH};
    private static final int[] WORKS = {ALWAYS, ALWAYS, ALWAYS, IN_LIGHT, ALWAYS, IN_DARK};

    private final Stand now = new Stand();
    private final Stand mind = new Stand();
    private final Stand taken = new Stand();
    private boolean isTaken = false;
    private final Walks walks = new Walks();
    private final Text text = new Text();
    private final int[] numbers = new int[MOST_ROW];
    private int told = 0;
    private final int[] refusals = new int[7];
    private int seed = 0;

    public ArmsAlongBeam() {
    }

    public int letter(int c) {
        if (c < 0) {
            return refuse(BELOW);
        }
        if (c > LAST_LETTER || text.isFull()) {
            return refuse(ROOM);
        }
        return text.append(c);
    }

    public int beam() {
        mind.become(now);
        int answer = text.tellAll(mind);
        text.forget();
        if (answer > 0) {
            now.become(mind);
        }
        return answer;
    }

    public int arm(int arm, int what) {
        if (!now.hasArm(arm)) {
            return refuse(NOBODY);
        }
        switch (what) {
            case 0:
                return now.kindOf(arm);
            case 1:
                return now.handOn(arm, 0);
            case 2:
                return now.handOn(arm, 1);
            case 3:
                return now.reachOf(arm);
            case 4:
                return now.worksNow(arm) ? 1 : 0;
            default:
                return refuse(OTHER);
        }
    }

    public int joint(int joint) {
        if (!isJoint(joint)) {
            return refuse(NOBODY);
        }
        return now.isFixed(joint) ? now.whoIsOn(joint) : NOT_FIXED;
    }

    public int step(int arm, int hand, int joint) {
        if (!now.hasArm(arm) || !isHand(hand) || !isJoint(joint)) {
            return refuse(NOBODY);
        }
        if (!now.canGo(arm, hand, joint)) {
            return refuse(STATE);
        }
        if (now.hours >= MOST_HOURS) {
            return refuse(ROOM);
        }
        now.putHand(arm, hand, joint);
        now.goBy(1);
        return now.hours;
    }

    public int fix(int arm, int joint) {
        if (!now.hasArm(arm) || !isJoint(joint)) {
            return refuse(NOBODY);
        }
        if (!now.canFix(arm, joint)) {
            return refuse(STATE);
        }
        return turnJoint(joint);
    }

    public int unfix(int arm, int joint) {
        if (!now.hasArm(arm) || !isJoint(joint)) {
            return refuse(NOBODY);
        }
        if (!now.canFree(arm, joint)) {
            return refuse(STATE);
        }
        return turnJoint(joint);
    }

    private int turnJoint(int joint) {
        if (now.hours >= MOST_HOURS) {
            return refuse(ROOM);
        }
        now.fixed ^= 1 << joint;
        now.goBy(1);
        return now.hours;
    }

    public int pass(int n) {
        if (n < 1) {
            return refuse(BELOW);
        }
        if (n > MOST_PASS || now.hours + n > MOST_HOURS) {
            return refuse(ROOM);
        }
        now.goBy(n);
        return now.hour;
    }

    public int may(int arm, int hand) {
        if (!now.hasArm(arm) || !isHand(hand)) {
            return refuse(NOBODY);
        }
        return now.goesTo(arm, hand);
    }

    public int blocked() {
        int bits = 0;
        for (int arm = 0; arm < now.arms; arm++) {
            if (now.isBlocked(arm)) {
                bits |= 1 << arm;
            }
        }
        return bits;
    }

    public int by(int arm) {
        if (!now.hasArm(arm)) {
            return refuse(NOBODY);
        }
        if (!now.isBlocked(arm)) {
            return refuse(STATE);
        }
        return now.blockers(arm);
    }

    public int closedIn(int what) {
        if (what != 0 && what != 1) {
            return refuse(OTHER);
        }
        int pairs = 0;
        int first = NONE;
        for (int one = 0; one < now.arms; one++) {
            for (int other = one + 1; other < now.arms; other++) {
                if (now.closeEachOther(one, other)) {
                    pairs++;
                    first = pairs == 1 ? 10 * one + other : first;
                }
            }
        }
        return what == 0 ? pairs : first;
    }

    public int way(int arm, int joint) {
        if (!now.hasArm(arm) || !isJoint(joint)) {
            return refuse(NOBODY);
        }
        walks.walk(now, arm);
        return walks.fewestTo(joint);
    }

    public int come(int arm) {
        if (!now.hasArm(arm)) {
            return refuse(NOBODY);
        }
        walks.walk(now, arm);
        int bits = 0;
        for (int joint = 0; joint < JOINTS; joint++) {
            if (walks.fewestTo(joint) != NONE) {
                bits |= 1 << joint;
            }
        }
        return bits;
    }

    public int last(int arm, int one, int other) {
        if (!now.hasArm(arm) || !isJoint(one) || !isJoint(other)) {
            return refuse(NOBODY);
        }
        walks.walk(now, arm);
        return walks.stepsTo(one, other);
    }

    public int handing(int from, int to) {
        if (!isJoint(from) || !isJoint(to)) {
            return refuse(NOBODY);
        }
        return now.fewestHanding(from, to, NONE);
    }

    public int without(int from, int to, int arm) {
        if (!isJoint(from) || !isJoint(to) || !now.hasArm(arm)) {
            return refuse(NOBODY);
        }
        return now.fewestHanding(from, to, arm) != NONE ? 1 : 0;
    }

    public int falls(int joint) {
        if (!isJoint(joint)) {
            return refuse(NOBODY);
        }
        if (!now.isFixed(joint)) {
            return refuse(STATE);
        }
        int left = now.fixed & ~(1 << joint);
        // The beam is one row, so what hangs on JOINT 0 is the unbroken run that begins there.
        for (int held = 0; held < JOINTS && hasBit(left, held); held++) {
            left &= ~(1 << held);
        }
        return left;
    }

    public int row(int v) {
        if (v < 0) {
            return refuse(BELOW);
        }
        if (v > LAST_ROW || told < 0 || told >= numbers.length) {
            return refuse(ROOM);
        }
        numbers[told] = v;
        told++;
        return told;
    }

    public int stood(int what) {
        if (what != 0 && what != 1) {
            return refuse(OTHER);
        }
        if (told != 2 * now.arms) {
            return refuse(STATE);
        }
        int first = now.onlyStepTo(numbers);
        if (what == 1) {
            return first;
        }
        return first == NONE ? 0 : 1;
    }

    public int back() {
        mind.become(now);
        if (told != 2 * now.arms || !mind.standAs(numbers)) {
            return refuse(STATE);
        }
        return mind.onlyStepTo(now.hands) == NONE ? 0 : 1;
    }

    public int judge() {
        mind.become(now);
        int wrong = NONE;
        for (int i = 0; i < told && i < numbers.length && wrong == NONE; i++) {
            int code = numbers[i];
            if (!mind.tryStep(code / 1000, code % 1000 / 100, code % 100)) {
                wrong = i;
            }
        }
        told = 0;
        return wrong;
    }

    public int clear() {
        int had = told;
        told = 0;
        return had;
    }

    public int rest(int arm) {
        if (!now.hasArm(arm)) {
            return refuse(NOBODY);
        }
        for (int wait = 0; wait < DAY; wait++) {
            if (now.worksAt(arm, (now.hour + wait) % DAY)) {
                return wait;
            }
        }
        return NONE;
    }

    public int seeds(int n, int z) {
        if (n < 1) {
            return refuse(BELOW);
        }
        if (n > MOST_SEEDS) {
            return refuse(ROOM);
        }
        if (now.arms < 1) {
            return refuse(STATE);
        }
        mind.become(now);
        seed = z;
        int could = 0;
        for (int i = 0; i < n; i++) {
            int arm = draw(now.arms);
            int hand = draw(2);
            int joint = draw(JOINTS);
            if (mind.tryStep(arm, hand, joint)) {
                could++;
            }
        }
        return could;
    }

    private int draw(int below) {
        seed = seed * 1664525 + 1013904223;
        return below < 1 ? 0 : (seed & WITHOUT_SIGN) / 256 % below;
    }

    public int image() {
        taken.become(now);
        isTaken = true;
        return now.hours;
    }

    public int on() {
        if (!isTaken) {
            return refuse(STATE);
        }
        now.become(taken);
        return now.hours;
    }

    public int count(int what) {
        switch (what) {
            case 0:
                return now.arms;
            case 1:
                return Integer.bitCount(now.fixed);
            case 2:
                return now.hour;
            case 3:
                return now.hours;
            case 4:
                return Integer.bitCount(now.light);
            case 5:
                return told;
            case 6:
                return text.length;
            default:
                return refusalsOf(what - 10);
        }
    }

    private int refusalsOf(int number) {
        return number < 1 || number >= refusals.length ? NONE : refusals[number];
    }

    private int refuse(int answer) {
        int number = -answer;
        if (number >= 0 && number < refusals.length) {
            refusals[number]++;
        }
        return answer;
    }

    private static boolean isJoint(int joint) {
        return joint >= 0 && joint < JOINTS;
    }

    private static boolean isHand(int hand) {
        return hand == 0 || hand == 1;
    }

    private static boolean hasBit(int bits, int bit) {
        return bit >= 0 && bit < 32 && (bits >> bit & 1) == 1;
    }

    /** The JOINTS no farther than some JOINTS from one. */
    private static int around(int joint, int reach) {
        int bits = 0;
        for (int other = 0; other < JOINTS; other++) {
            if (Math.abs(other - joint) <= reach) {
                bits |= 1 << other;
            }
        }
        return bits;
    }

    /** How all stands at one time: what a BEAM tells, and HOURS. */
    private static final class Stand {
        int fixed = FIRST_FIXED;
        int arms = 0;
        int hour = 0;
        int hours = 0;
        int light = ALL_HOURS;
        final int[] kinds = new int[MOST_ARMS];
        /** The JOINT of each HAND, at 2 times the ARM and the HAND. */
        final int[] hands = new int[MOST_HANDS];

        void become(Stand other) {
            fixed = other.fixed;
            arms = other.arms;
            hour = other.hour;
            hours = other.hours;
            light = other.light;
            for (int i = 0; i < kinds.length && i < other.kinds.length; i++) {
                kinds[i] = other.kinds[i];
            }
            for (int i = 0; i < hands.length && i < other.hands.length; i++) {
                hands[i] = other.hands[i];
            }
        }

        boolean hasArm(int arm) {
            return arm >= 0 && arm < arms && arm < kinds.length;
        }

        int kindOf(int arm) {
            return arm >= 0 && arm < kinds.length ? kinds[arm] : 0;
        }

        int reachOf(int arm) {
            int kind = kindOf(arm);
            return kind >= 0 && kind < REACHES.length ? REACHES[kind] : 0;
        }

        int handOn(int arm, int hand) {
            int place = 2 * arm + hand;
            return hasArm(arm) && isHand(hand) && place >= 0 && place < hands.length ? hands[place] : NONE;
        }

        void putHand(int arm, int hand, int joint) {
            int place = 2 * arm + hand;
            if (hasArm(arm) && isHand(hand) && place >= 0 && place < hands.length) {
                hands[place] = joint;
            }
        }

        boolean isFixed(int joint) {
            return hasBit(fixed, joint);
        }

        boolean worksAt(int arm, int someHour) {
            int kind = kindOf(arm);
            int when = kind >= 0 && kind < WORKS.length ? WORKS[kind] : ALWAYS;
            return when == ALWAYS || hasBit(light, someHour) == (when == IN_LIGHT);
        }

        boolean worksNow(int arm) {
            return worksAt(arm, hour);
        }

        boolean staysPut(int arm, int hand) {
            return kindOf(arm) == KEEPER && hand == 0;
        }

        void goBy(int n) {
            hour = (hour + n) % DAY;
            hours += n;
        }

        /** The JOINTS with HANDS, were the ARM away not there. */
        int heldBut(int away) {
            int bits = 0;
            for (int place = 0; place < 2 * arms && place < hands.length; place++) {
                if (place / 2 != away) {
                    bits |= 1 << hands[place];
                }
            }
            return bits;
        }

        int whoIsOn(int joint) {
            for (int place = 0; place < 2 * arms && place < hands.length; place++) {
                if (hands[place] == joint) {
                    return 10 * (place / 2) + place % 2;
                }
            }
            return NONE;
        }

        /** Where a HAND can go, HOURS aside, were the ARM away not there. */
        int openTo(int arm, int hand, int away) {
            if (staysPut(arm, hand)) {
                return 0;
            }
            return fixed & ~heldBut(away) & around(handOn(arm, 1 - hand), reachOf(arm));
        }

        int goesTo(int arm, int hand) {
            return worksNow(arm) ? openTo(arm, hand, NONE) : 0;
        }

        boolean canGo(int arm, int hand, int joint) {
            return hasBit(goesTo(arm, hand), joint);
        }

        /** An HOUR goes by whether the STEP can be or not. */
        boolean tryStep(int arm, int hand, int joint) {
            boolean can = hasArm(arm) && isHand(hand) && hasBit(goesTo(arm, hand), joint);
            if (can) {
                putHand(arm, hand, joint);
            }
            goBy(1);
            return can;
        }

        boolean isBeside(int arm, int joint) {
            return Math.abs(handOn(arm, 0) - joint) == 1 || Math.abs(handOn(arm, 1) - joint) == 1;
        }

        boolean canFix(int arm, int joint) {
            return worksNow(arm) && isBeside(arm, joint) && !isFixed(joint);
        }

        boolean canFree(int arm, int joint) {
            return worksNow(arm) && isBeside(arm, joint) && isFixed(joint) && whoIsOn(joint) == NONE;
        }

        boolean hasStepBut(int arm, int away) {
            return (openTo(arm, 0, away) | openTo(arm, 1, away)) != 0;
        }

        boolean isBlocked(int arm) {
            return worksNow(arm) && !hasStepBut(arm, NONE);
        }

        int blockers(int arm) {
            int bits = 0;
            for (int other = 0; other < arms; other++) {
                if (other != arm && hasStepBut(arm, other)) {
                    bits |= 1 << other;
                }
            }
            return bits;
        }

        boolean closeEachOther(int one, int other) {
            return isBlocked(one) && isBlocked(other) && hasStepBut(one, other) && hasStepBut(other, one);
        }

        int fewestHanding(int from, int to, int away) {
            if (from == to) {
                return 0;
            }
            int givers = takersAt(from, away);
            int receivers = takersAt(to, away);
            for (int many = 1; many <= arms; many++) {
                if ((givers & receivers) != 0) {
                    return many;
                }
                givers = handedOn(givers, away);
            }
            return NONE;
        }

        int takersAt(int joint, int away) {
            int bits = 0;
            for (int arm = 0; arm < arms; arm++) {
                if (arm != away && hasHandNear(arm, joint, 1)) {
                    bits |= 1 << arm;
                }
            }
            return bits;
        }

        boolean hasHandNear(int arm, int joint, int apart) {
            return Math.abs(handOn(arm, 0) - joint) <= apart || Math.abs(handOn(arm, 1) - joint) <= apart;
        }

        int handedOn(int givers, int away) {
            int bits = givers;
            for (int giver = 0; giver < arms; giver++) {
                for (int arm = 0; arm < arms; arm++) {
                    if (hasBit(givers, giver) && arm != away && handTogether(giver, arm)) {
                        bits |= 1 << arm;
                    }
                }
            }
            return bits;
        }

        boolean handTogether(int giver, int arm) {
            return hasHandNear(arm, handOn(giver, 0), 2) || hasHandNear(arm, handOn(giver, 1), 2);
        }

        /** The STEP, HOURS aside, by which all stand so; there is never more than one, as a STEP moves one HAND. */
        int onlyStepTo(int[] there) {
            int moved = NONE;
            for (int place = 0; place < 2 * arms && place < hands.length && place < there.length; place++) {
                if (hands[place] != there[place]) {
                    if (moved != NONE) {
                        return NONE;
                    }
                    moved = place;
                }
            }
            if (moved < 0 || moved >= there.length) {
                return NONE;
            }
            int joint = there[moved];
            return hasBit(openTo(moved / 2, moved % 2, NONE), joint) ? 1000 * (moved / 2) + 100 * (moved % 2) + joint : NONE;
        }

        /** Puts all HANDS as told, and tells whether all could stand so. */
        boolean standAs(int[] there) {
            int held = 0;
            for (int place = 0; place < 2 * arms && place < hands.length && place < there.length; place++) {
                int joint = there[place];
                if (!isJoint(joint) || !isFixed(joint) || hasBit(held, joint)) {
                    return false;
                }
                held |= 1 << joint;
                hands[place] = joint;
            }
            for (int arm = 0; arm < arms; arm++) {
                if (Math.abs(handOn(arm, 0) - handOn(arm, 1)) > reachOf(arm)) {
                    return false;
                }
            }
            return true;
        }

        boolean tellJoint(int joint) {
            if (!isJoint(joint) || whoIsOn(joint) != NONE) {
                return false;
            }
            fixed ^= 1 << joint;
            return true;
        }

        boolean tellHour(int told) {
            if (told < 0 || told >= DAY) {
                return false;
            }
            hour = told;
            return true;
        }

        boolean tellDark(int told) {
            if (told < 0 || told >= DAY) {
                return false;
            }
            light ^= 1 << told;
            return true;
        }

        boolean tellArm(int kind, int one, int other) {
            if (arms < 0 || arms >= kinds.length || kind < 0 || kind >= REACHES.length) {
                return false;
            }
            if (!isFree(one) || !isFree(other) || one == other || Math.abs(one - other) > REACHES[kind]) {
                return false;
            }
            kinds[arms] = kind;
            arms++;
            putHand(arms - 1, 0, one);
            putHand(arms - 1, 1, other);
            return true;
        }

        boolean isFree(int joint) {
            return isJoint(joint) && isFixed(joint) && whoIsOn(joint) == NONE;
        }
    }

    /** The fewest STEPS of one ARM to each place of its two HANDS, all others staying. */
    private static final class Walks {
        private final int[] steps = new int[JOINTS * JOINTS];
        private final int[] queue = new int[JOINTS * JOINTS];
        private int queued = 0;

        void walk(Stand stand, int arm) {
            for (int i = 0; i < steps.length; i++) {
                steps[i] = NONE;
            }
            queued = 0;
            comeTo(stand.handOn(arm, 0), stand.handOn(arm, 1), 0);
            int footing = stand.fixed & ~stand.heldBut(arm);
            for (int next = 0; next < queued && next < queue.length; next++) {
                goOn(stand, arm, footing, queue[next]);
            }
        }

        private void goOn(Stand stand, int arm, int footing, int place) {
            int one = place / JOINTS;
            int other = place % JOINTS;
            int behind = stepsTo(one, other) + 1;
            int reach = stand.reachOf(arm);
            for (int joint = 0; joint < JOINTS; joint++) {
                if (hasBit(footing, joint) && joint != one && joint != other) {
                    if (!stand.staysPut(arm, 0) && Math.abs(joint - other) <= reach) {
                        comeTo(joint, other, behind);
                    }
                    if (!stand.staysPut(arm, 1) && Math.abs(joint - one) <= reach) {
                        comeTo(one, joint, behind);
                    }
                }
            }
        }

        private void comeTo(int one, int other, int behind) {
            int place = JOINTS * one + other;
            if (place >= 0 && place < steps.length && steps[place] == NONE && queued >= 0 && queued < queue.length) {
                steps[place] = behind;
                queue[queued] = place;
                queued++;
            }
        }

        int stepsTo(int one, int other) {
            int place = JOINTS * one + other;
            return place >= 0 && place < steps.length ? steps[place] : NONE;
        }

        int fewestTo(int joint) {
            int fewest = NONE;
            for (int other = 0; other < JOINTS; other++) {
                fewest = lesser(fewest, stepsTo(joint, other));
                fewest = lesser(fewest, stepsTo(other, joint));
            }
            return fewest;
        }

        private static int lesser(int one, int other) {
            if (one == NONE || other == NONE) {
                return one == NONE ? other : one;
            }
            return Math.min(one, other);
        }
    }

    /** The letters that have come, and the STATEMENT read from them last. */
    private static final class Text {
        private final int[] letters = new int[MOST_LETTERS];
        private int length = 0;
        private int place = 0;
        private int sort = 0;
        private int kind = 0;
        private int one = 0;
        private int other = 0;

        boolean isFull() {
            return length >= letters.length;
        }

        int append(int c) {
            if (length >= 0 && length < letters.length) {
                letters[length] = c;
                length++;
            }
            return length;
        }

        void forget() {
            length = 0;
        }

        /** Tells all to a Stand: how many STATEMENTS, or the FAULT, behind which the Stand is of no use. */
        int tellAll(Stand stand) {
            int statements = 0;
            place = 0;
            // A fault of form anywhere goes before one of sense, so all is read before any of it is told.
            for (int i = 0; i <= letters.length && (place < length || i == 0); i++) {
                if (!readStatement()) {
                    return FAULT_OF_FORM - place;
                }
                statements++;
            }
            place = 0;
            for (int i = 0; i < statements; i++) {
                int begin = place;
                if (!readStatement() || !tellOne(stand)) {
                    return FAULT_OF_SENSE - begin;
                }
            }
            return statements;
        }

        private boolean tellOne(Stand stand) {
            switch (sort) {
                case 'j':
                    return stand.tellJoint(one);
                case 'a':
                    return stand.tellArm(kind, one, other);
                case 'h':
                    return stand.tellHour(one);
                case 'd':
                    return stand.tellDark(one);
                default:
                    return false;
            }
        }

        /** Where it can't read on, the place stays at the letter that is wrong, or at the end. */
        private boolean readStatement() {
            sort = here();
            switch (sort) {
                case 'a':
                    place++;
                    return readArm() && readSign(';');
                case 'j':
                case 'h':
                case 'd':
                    place++;
                    one = readNumber();
                    return one >= 0 && readSign(';');
                default:
                    return false;
            }
        }

        private boolean readArm() {
            if (!readKind()) {
                return false;
            }
            one = readNumber();
            if (one < 0 || !readSign(',')) {
                return false;
            }
            other = readNumber();
            return other >= 0;
        }

        private boolean readKind() {
            for (int i = 0; i < KIND_LETTERS.length; i++) {
                if (here() == KIND_LETTERS[i]) {
                    kind = i;
                    place++;
                    return true;
                }
            }
            return false;
        }

        /** A number of 1 or 2 digits; -9 if none is here. */
        private int readNumber() {
            if (!isDigit(here())) {
                return NONE;
            }
            int number = here() - '0';
            place++;
            if (isDigit(here())) {
                number = 10 * number + here() - '0';
                place++;
            }
            return number;
        }

        private boolean readSign(int sign) {
            if (here() != sign) {
                return false;
            }
            place++;
            return true;
        }

        private int here() {
            return place >= 0 && place < length && place < letters.length ? letters[place] : NONE;
        }

        private static boolean isDigit(int c) {
            return c >= '0' && c <= '9';
        }
    }
}
