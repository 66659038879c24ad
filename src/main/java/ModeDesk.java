/** Modes of an autopilot, as ../shared/DOC.md promises them. */
public final class ModeDesk {
    public static final int NONE = -1;

    private static final int LATERAL = 0;
    private static final int VERTICAL = 1;

    private static final int OFF = 0;

    private static final int ROLL = 1;
    private static final int HEADING = 2;
    private static final int NAV = 3;
    private static final int APPROACH = 4;
    private static final int LATERAL_AROUND = 5;

    private static final int PITCH = 1;
    private static final int CLIMB = 2;
    private static final int LEVEL = 3;
    private static final int HOLD = 4;
    private static final int CAPTURE = 5;
    private static final int GLIDE = 6;
    private static final int VERTICAL_AROUND = 7;

    private static final int COURSE_DEVIATION = 0;
    private static final int PATH_DEVIATION = 1;
    private static final int HEIGHT = 2;
    private static final int SELECTED_HEIGHT = 3;
    private static final int SPEED = 4;
    private static final int COURSE_RECEIVED = 5;
    private static final int PATH_RECEIVED = 6;
    private static final int MEASURES = 7;
    private static final int[] LOWEST = {-1000, -1000, 0, 0, 0, 0, 0};
    private static final int[] HIGHEST = {1000, 1000, 50000, 50000, 600, 1, 1};

    private static final int BUTTONS = 10;
    private static final int LAST_BUTTON_THAT_TURNS_ON = 7;

    private static final int NAV_REACH = 150;
    private static final int APPROACH_REACH = 100;
    private static final int GLIDE_REACH = 80;
    private static final int CAPTURE_REACH = 400;
    private static final int HOLD_REACH = 20;
    private static final int TOP_SPEED = 400;

    private static final int FLASH_STEPS = 10;
    private static final int KEPT_LIMIT = 300;
    // Each rule leads towards a mode that it can't leave again, so a handful comes about at most.
    private static final int SETTLE_LIMIT = 1000;

    private final int[] active = new int[2];
    private final int[] flashing = new int[2];
    private final int[] measures = new int[MEASURES];
    private final boolean[] soundness = new boolean[2];
    private int leader;
    private boolean navArmed;
    private boolean approachArmed;
    private boolean glideArmed;
    private boolean engaged;
    private boolean warning;
    // One number a change keeps an object small: bit 0 place, 1-3 before, 4-6 behind, 7 by itself.
    private final int[] changes = new int[KEPT_LIMIT];
    private int changeCount;

    public ModeDesk() {
        soundness[0] = true;
        soundness[1] = true;
    }

    public int press(int button) throws IllegalArgumentException {
        if (button < 0 || button >= BUTTONS) {
            throw new IllegalArgumentException("no such button");
        }
        int before = stateAsNumber();
        stopFlashing();
        obey(button);
        settle();
        return stateAsNumber() == before ? 0 : 1;
    }

    public int sense(int what, int v) throws IllegalArgumentException {
        if (!isMeasure(what)) {
            throw new IllegalArgumentException("no such measure");
        }
        if (v < LOWEST[what] || v > HIGHEST[what]) {
            throw new IllegalArgumentException("out of the measure's range");
        }
        measures[what] = v;
        return settle();
    }

    public int channel(int c, boolean sound) throws IllegalArgumentException {
        if (c != 0 && c != 1) {
            throw new IllegalArgumentException("no such channel");
        }
        soundness[c] = sound;
        return settle();
    }

    public int engage() {
        if (engaged || !isAnyChannelSound() || isAroundAnywhere() || isTooFast()) {
            return 0;
        }
        turnOnIfOff();
        engaged = true;
        settle();
        return 1;
    }

    public int disconnect() {
        if (engaged) {
            disengageWithWarning();
            return 2;
        }
        if (warning) {
            warning = false;
            return 1;
        }
        return 0;
    }

    public int step(int n) throws IllegalArgumentException {
        if (n < 1) {
            throw new IllegalArgumentException("at least one step");
        }
        int still = 0;
        for (int place = LATERAL; place <= VERTICAL; place++) {
            flashing[place] = n >= flashing[place] ? 0 : flashing[place] - n;
            if (flashing[place] > 0) {
                still++;
            }
        }
        return still;
    }

    public int mode(int place) throws IllegalArgumentException {
        if (place != LATERAL && place != VERTICAL) {
            throw new IllegalArgumentException("no such place");
        }
        return active[place];
    }

    public boolean armed(int which) throws IllegalArgumentException {
        switch (which) {
            case 0:
                return navArmed;
            case 1:
                return approachArmed;
            case 2:
                return glideArmed;
            case 3:
                return isCaptureArmed();
            default:
                throw new IllegalArgumentException("no such mode to arm");
        }
    }

    public int shown() {
        return bit(isOn(), 1)
            | bit(engaged, 2)
            | bit(warning, 4)
            | bit(flashing[LATERAL] > 0, 8)
            | bit(flashing[VERTICAL] > 0, 16)
            | bit(leader == 1, 32);
    }

    public int kept(int i, int what) {
        if (i < 0 || i >= changeCount) {
            return NONE;
        }
        int change = changes[i];
        switch (what) {
            case 0:
                return change & 1;
            case 1:
                return (change >> 1) & 7;
            case 2:
                return (change >> 4) & 7;
            case 3:
                return (change >> 7) & 1;
            default:
                return NONE;
        }
    }

    public int measure(int what) throws IllegalArgumentException {
        if (!isMeasure(what)) {
            throw new IllegalArgumentException("no such measure");
        }
        return measures[what];
    }

    // ---- what holds ----

    private static boolean isMeasure(int what) {
        return what >= 0 && what < MEASURES;
    }

    private boolean isOn() {
        return active[LATERAL] != OFF;
    }

    private boolean isAnyChannelSound() {
        return soundness[0] || soundness[1];
    }

    private boolean isAroundAnywhere() {
        return active[LATERAL] == LATERAL_AROUND || active[VERTICAL] == VERTICAL_AROUND;
    }

    private boolean isTooFast() {
        return measures[SPEED] > TOP_SPEED;
    }

    private boolean isCaptureArmed() {
        int vertical = active[VERTICAL];
        return vertical == PITCH || vertical == CLIMB || vertical == LEVEL;
    }

    private boolean isCourseWithin(int reach) {
        return measures[COURSE_RECEIVED] == 1 && Math.abs(measures[COURSE_DEVIATION]) <= reach;
    }

    private boolean isPathWithin(int reach) {
        return measures[PATH_RECEIVED] == 1 && Math.abs(measures[PATH_DEVIATION]) <= reach;
    }

    private boolean isHeightWithin(int reach) {
        return Math.abs(measures[HEIGHT] - measures[SELECTED_HEIGHT]) <= reach;
    }

    private static int bit(boolean set, int value) {
        return set ? value : 0;
    }

    // What a press may change, and no more: its answer compares this before and behind.
    private int stateAsNumber() {
        return active[LATERAL]
            | active[VERTICAL] << 3
            | bit(navArmed, 64)
            | bit(approachArmed, 128)
            | bit(glideArmed, 256)
            | bit(engaged, 512)
            | bit(leader == 1, 1024);
    }

    // ---- what changes ----

    private void change(int place, int mode, boolean byItself) {
        int before = active[place];
        if (before == mode) {
            return;
        }
        active[place] = mode;
        if (byItself) {
            flashing[place] = FLASH_STEPS;
        }
        if (changeCount < KEPT_LIMIT) {
            changes[changeCount] = place | before << 1 | mode << 4 | bit(byItself, 128);
            changeCount++;
        }
    }

    private void stopFlashing() {
        flashing[LATERAL] = 0;
        flashing[VERTICAL] = 0;
    }

    private void disarmAll() {
        navArmed = false;
        approachArmed = false;
        glideArmed = false;
    }

    private void goToBase() {
        change(LATERAL, ROLL, false);
        change(VERTICAL, PITCH, false);
        disarmAll();
    }

    private void turnOnIfOff() {
        if (!isOn()) {
            goToBase();
        }
    }

    private void turnOff(boolean byItself) {
        change(LATERAL, OFF, byItself);
        change(VERTICAL, OFF, byItself);
        disarmAll();
        disengageWithWarning();
        stopFlashing();
    }

    private void disengageWithWarning() {
        if (engaged) {
            engaged = false;
            warning = true;
        }
    }

    // GLIDE hangs on APPROACH, so whatever ends APPROACH ends GLIDE, active or armed, too.
    private void leaveCourseFor(int lateral, boolean byItself) {
        change(LATERAL, lateral, byItself);
        if (active[VERTICAL] == GLIDE) {
            change(VERTICAL, PITCH, byItself);
        }
        if (!approachArmed) {
            glideArmed = false;
        }
    }

    // ---- the buttons ----

    private void obey(int button) {
        if (button <= LAST_BUTTON_THAT_TURNS_ON) {
            if (!isAnyChannelSound()) {
                return;
            }
            turnOnIfOff();
        }
        switch (button) {
            case 0:
                obeyHeading();
                break;
            case 1:
                obeyNav();
                break;
            case 2:
                obeyApproach();
                break;
            case 3:
                obeyVertical(CLIMB);
                break;
            case 4:
                obeyVertical(LEVEL);
                break;
            case 5:
                obeyVertical(HOLD);
                break;
            case 6:
                obeyAround();
                break;
            case 7:
                obeySync();
                break;
            case 8:
                obeyTransfer();
                break;
            default:
                obeyDirector();
                break;
        }
    }

    private void obeyHeading() {
        if (active[LATERAL] == HEADING) {
            change(LATERAL, ROLL, false);
        } else {
            leaveCourseFor(HEADING, false);
        }
    }

    private void obeyNav() {
        if (active[LATERAL] == APPROACH) {
            return;
        }
        if (active[LATERAL] == NAV) {
            change(LATERAL, ROLL, false);
        } else if (navArmed) {
            navArmed = false;
        } else {
            navArmed = true;
            approachArmed = false;
            glideArmed = false;
        }
    }

    private void obeyApproach() {
        if (active[LATERAL] == APPROACH) {
            leaveCourseFor(ROLL, false);
        } else if (approachArmed) {
            approachArmed = false;
            glideArmed = false;
        } else {
            approachArmed = true;
            glideArmed = true;
            navArmed = false;
        }
    }

    private void obeyVertical(int mode) {
        if (active[VERTICAL] == GLIDE) {
            return;
        }
        change(VERTICAL, active[VERTICAL] == mode ? PITCH : mode, false);
    }

    private void obeyAround() {
        change(LATERAL, LATERAL_AROUND, false);
        change(VERTICAL, VERTICAL_AROUND, false);
        disarmAll();
        disengageWithWarning();
    }

    // Another button may have taken one place out of AROUND: then only the other one is synced.
    private void obeySync() {
        if (active[LATERAL] == LATERAL_AROUND) {
            change(LATERAL, ROLL, false);
        }
        if (active[VERTICAL] == VERTICAL_AROUND) {
            change(VERTICAL, PITCH, false);
        }
    }

    private void obeyTransfer() {
        int other = 1 - leader;
        if (!soundness[other]) {
            return;
        }
        leader = other;
        if (isOn()) {
            goToBase();
        }
    }

    private void obeyDirector() {
        if (!isOn()) {
            if (isAnyChannelSound()) {
                goToBase();
            }
        } else if (!engaged) {
            turnOff(false);
        }
    }

    // ---- what comes about by itself ----

    private int settle() {
        int count = 0;
        while (count < SETTLE_LIMIT && comesAboutByItself()) {
            count++;
        }
        return count;
    }

    // The order is the document's, a to j: the first that holds comes about, and no other.
    private boolean comesAboutByItself() {
        return leaderFails()
            || courseIsLost()
            || pathIsLost()
            || navIsReached()
            || approachIsReached()
            || glideIsReached()
            || heightComesNear()
            || heightIsReached()
            || heightIsLost()
            || climbIsTooFast();
    }

    private boolean leaderFails() {
        if (!isOn() || soundness[leader]) {
            return false;
        }
        int other = 1 - leader;
        if (soundness[other]) {
            leader = other;
        } else {
            turnOff(true);
        }
        return true;
    }

    private boolean courseIsLost() {
        boolean follows = active[LATERAL] == NAV || active[LATERAL] == APPROACH;
        if (!follows || measures[COURSE_RECEIVED] == 1) {
            return false;
        }
        leaveCourseFor(ROLL, true);
        return true;
    }

    private boolean pathIsLost() {
        boolean held = measures[PATH_RECEIVED] == 1 && active[LATERAL] == APPROACH;
        if (active[VERTICAL] != GLIDE || held) {
            return false;
        }
        change(VERTICAL, PITCH, true);
        return true;
    }

    private boolean navIsReached() {
        if (!navArmed || !isCourseWithin(NAV_REACH)) {
            return false;
        }
        change(LATERAL, NAV, true);
        navArmed = false;
        return true;
    }

    private boolean approachIsReached() {
        if (!approachArmed || !isCourseWithin(APPROACH_REACH)) {
            return false;
        }
        change(LATERAL, APPROACH, true);
        approachArmed = false;
        return true;
    }

    private boolean glideIsReached() {
        if (!glideArmed || active[LATERAL] != APPROACH || !isPathWithin(GLIDE_REACH)) {
            return false;
        }
        change(VERTICAL, GLIDE, true);
        glideArmed = false;
        return true;
    }

    private boolean heightComesNear() {
        if (!isCaptureArmed() || !isHeightWithin(CAPTURE_REACH)) {
            return false;
        }
        change(VERTICAL, CAPTURE, true);
        return true;
    }

    private boolean heightIsReached() {
        if (active[VERTICAL] != CAPTURE || !isHeightWithin(HOLD_REACH)) {
            return false;
        }
        change(VERTICAL, HOLD, true);
        return true;
    }

    private boolean heightIsLost() {
        if (active[VERTICAL] != CAPTURE || isHeightWithin(CAPTURE_REACH)) {
            return false;
        }
        change(VERTICAL, PITCH, true);
        return true;
    }

    private boolean climbIsTooFast() {
        if (active[VERTICAL] != CLIMB || !isTooFast()) {
            return false;
        }
        change(VERTICAL, LEVEL, true);
        return true;
    }
}
