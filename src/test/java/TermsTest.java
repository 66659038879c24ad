/** The Terms: a test for each sentence that says what is empty at first, at most, only while, or full at the end. */
final class TermsTest {
    private static final int CALLS = 512;
    private static final int KEPT = 300;

    public static void main(String[] args) {
        offAtFirst();
        measuresAre0AtFirst();
        channelsAreSoundAtFirstAndOneLeads();
        everyModeCanBeActive();
        bothAre0WhileOff();
        navOrApproachIsArmedOneAtMost();
        glideIsArmedOnlyWithApproach();
        captureIsArmedInThreeModesOnly();
        neverEngagedWhileOff();
        baseArmsNothing();
        nothingIsArmedBehindOff();
        buttonsUpTo7TurnOn();
        buttonsNeedOneSoundChannel();
        aPlaceFlashesForTenSteps();
        flashingBeginsAnew();
        flashingEndsWithAButton();
        flashingEndsWithOff();
        buttonsOwnChangesDoNotFlash();
        aWarningGoesOnUntilAcknowledged();
        keptIsEmptyAtFirst();
        theFirst300AreKept();
        theLimitMayPartAPair();
        allElseGoesOnWhenKeptIsFull();
        the512thCallIsAnsweredStill();
        Checks.finish("TermsTest");
    }

    private static void offAtFirst() {
        Checks.due("new", Checks.everything(new ModeDesk()), "off/off, shown 0, measures 0 0 0 0 0 0 0, kept ");
    }

    private static void measuresAre0AtFirst() {
        ModeDesk desk = new ModeDesk();
        desk.press(Checks.APPROACH);
        Checks.dueModes("heights 0 are near, nothing is received", desk, "ROLL/HOLD A G");
        Checks.due("the speed 0 is low", desk.engage(), 1);
        Checks.due("deviations 0 are near: the course", desk.sense(Checks.COURSE_IN, 1), 1);
        Checks.due("deviations 0 are near: the path", desk.sense(Checks.PATH_IN, 1), 1);
    }

    private static void channelsAreSoundAtFirstAndOneLeads() {
        ModeDesk desk = new ModeDesk();
        int[] due = {Checks.SECOND_LEADS, 0, Checks.SECOND_LEADS};
        for (int shown : due) {
            Checks.due("the other one is sound", desk.press(Checks.TRANSFER), 1);
            Checks.due("it leads", desk.shown(), shown);
        }
    }

    private static void everyModeCanBeActive() {
        int[] lateral = {1, 2, 3, 4, 5};
        ModeDesk[] desks = {Checks.inBase(), Checks.inBase(), Checks.inNav(), Checks.inApproach(), Checks.inAround()};
        desks[1].press(Checks.HEADING);
        for (int k = 0; k < desks.length; k++) {
            Checks.due("lateral mode " + lateral[k], desks[k].mode(0), lateral[k]);
        }
        for (int vertical = 0; vertical <= 7; vertical++) {
            Checks.due("vertical mode " + vertical, inVertical(vertical).mode(1), vertical);
        }
    }

    /** A desk with that vertical mode, of 0 (off) to 7. */
    private static ModeDesk inVertical(int mode) {
        ModeDesk desk = mode == 6 ? Checks.inGlide() : mode == 7 ? Checks.inAround() : Checks.inBase();
        switch (mode) {
            case 0 -> desk.press(Checks.DIRECTOR);
            case 2 -> desk.press(Checks.CLIMB);
            case 3 -> desk.press(Checks.LEVEL);
            case 4 -> desk.press(Checks.HOLD);
            case 5 -> desk.sense(Checks.HEIGHT, 49700);
            default -> { }
        }
        return desk;
    }

    private static void bothAre0WhileOff() {
        for (int vertical = 1; vertical <= 7; vertical++) {
            ModeDesk desk = inVertical(vertical);
            desk.press(Checks.DIRECTOR);
            Checks.dueModes("off by a button from vertical mode " + vertical, desk, "off/off");
            ModeDesk failed = inVertical(vertical);
            failed.channel(0, false);
            Checks.due("on with the last channel", failed.mode(0) != 0 && failed.mode(1) == vertical, true);
            failed.channel(1, false);
            Checks.dueModes("off by itself from vertical mode " + vertical, failed, "off/off");
        }
    }

    private static void navOrApproachIsArmedOneAtMost() {
        ModeDesk desk = Checks.inBase();
        Checks.dueModes("none at first", desk, "ROLL/PITCH C");
        desk.press(Checks.NAV);
        Checks.dueModes("NAV", desk, "ROLL/PITCH N C");
        desk.press(Checks.APPROACH);
        Checks.dueModes("APPROACH behind NAV", desk, "ROLL/PITCH A G C");
        desk.press(Checks.NAV);
        Checks.dueModes("NAV behind APPROACH", desk, "ROLL/PITCH N C");
        ModeDesk active = Checks.inApproach();
        active.press(Checks.NAV);
        Checks.dueModes("NAV while APPROACH is active", active, "APPROACH/PITCH G C");
    }

    private static void glideIsArmedOnlyWithApproach() {
        int[] buttons = {Checks.HEADING, Checks.APPROACH, Checks.AROUND, Checks.TRANSFER, Checks.DIRECTOR};
        for (int button : buttons) {
            ModeDesk desk = Checks.inApproach();
            Checks.due("GLIDE armed, APPROACH active", desk.armed(2), true);
            desk.press(button);
            Checks.due("GLIDE without APPROACH by " + button, desk.armed(2), false);
        }
        int[] disarming = {Checks.NAV, Checks.APPROACH, Checks.AROUND, Checks.TRANSFER, Checks.DIRECTOR};
        for (int button : disarming) {
            ModeDesk desk = Checks.inBase();
            desk.press(Checks.APPROACH);
            Checks.due("GLIDE armed, APPROACH armed", desk.armed(2), true);
            desk.press(button);
            Checks.due("GLIDE without APPROACH armed by " + button, desk.armed(2), false);
        }
        ModeDesk lost = Checks.inApproach();
        lost.sense(Checks.COURSE_IN, 0);
        Checks.due("GLIDE without the course", lost.armed(2), false);
    }

    private static void captureIsArmedInThreeModesOnly() {
        for (int vertical = 0; vertical <= 7; vertical++) {
            Checks.due("CAPTURE armed in " + vertical, inVertical(vertical).armed(3), vertical >= 1 && vertical <= 3);
        }
    }

    private static void neverEngagedWhileOff() {
        ModeDesk desk = Checks.farBelow();
        desk.engage();
        Checks.due("DIRECTOR while engaged", desk.press(Checks.DIRECTOR), 0);
        Checks.due("engaged still", desk.shown(), Checks.ON | Checks.ENGAGED);
        desk.channel(1, false);
        desk.channel(0, false);
        Checks.due("off by itself", desk.shown(), Checks.WARNING);
        desk.channel(0, true);
        desk.press(Checks.DIRECTOR);
        Checks.due("on again, not engaged", desk.shown(), Checks.ON | Checks.WARNING);
    }

    private static void baseArmsNothing() {
        ModeDesk nav = Checks.inBase();
        nav.press(Checks.NAV);
        ModeDesk approach = Checks.inBase();
        approach.press(Checks.APPROACH);
        ModeDesk[] desks = {nav, approach, Checks.inNav(), Checks.inApproach(), Checks.inGlide(), Checks.inAround()};
        for (ModeDesk desk : desks) {
            String before = Checks.modes(desk);
            desk.press(Checks.TRANSFER);
            Checks.dueModes("BASE from " + before, desk, "ROLL/PITCH C");
        }
    }

    private static void nothingIsArmedBehindOff() {
        for (int button : new int[] {Checks.NAV, Checks.APPROACH}) {
            ModeDesk desk = Checks.inBase();
            desk.press(button);
            desk.press(Checks.DIRECTOR);
            Checks.dueModes("off by a button", desk, "off/off");
            desk.press(Checks.DIRECTOR);
            Checks.dueModes("on again", desk, "ROLL/PITCH C");
            desk.press(button);
            desk.channel(1, false);
            desk.channel(0, false);
            Checks.dueModes("off by itself", desk, "off/off");
            desk.channel(1, true);
            desk.press(Checks.DIRECTOR);
            Checks.dueModes("on again with channel 1", desk, "ROLL/PITCH C");
        }
    }

    private static void buttonsUpTo7TurnOn() {
        for (int button = 0; button <= 8; button++) {
            ModeDesk desk = Checks.farBelow();
            Checks.due("press(" + button + ")", desk.press(button), 1);
            Checks.due("on by " + button, desk.shown() & Checks.ON, button <= 7 ? 1 : 0);
        }
    }

    private static void buttonsNeedOneSoundChannel() {
        for (int button = 0; button <= 7; button++) {
            for (int sound = 0; sound <= 1; sound++) {
                ModeDesk desk = Checks.farBelow();
                desk.channel(0, false);
                desk.channel(1, false);
                Checks.due("no channel: press(" + button + ")", desk.press(button), 0);
                Checks.due("behind it", Checks.everything(desk), Checks.everything(Checks.farBelow()));
                desk.channel(sound, true);
                Checks.due("channel " + sound + ": press(" + button + ")", desk.press(button), 1);
                Checks.due("on with channel " + sound, desk.shown(), sound == 0 ? 1 : 33);
            }
        }
    }

    private static void aPlaceFlashesForTenSteps() {
        ModeDesk singly = Checks.inApproach();
        for (int step = 1; step <= 9; step++) {
            Checks.due("step " + step, singly.step(1), 1);
        }
        Checks.due("shown behind nine", singly.shown(), Checks.ON | Checks.LATERAL_FLASH);
        Checks.due("step 10", singly.step(1), 0);
        Checks.due("shown behind ten", singly.shown(), Checks.ON);
        Checks.due("step 11", singly.step(1), 0);
        int[] atOnce = {1, 9, 10, 11};
        for (int n : atOnce) {
            Checks.due("step(" + n + ")", Checks.inApproach().step(n), n < 10 ? 1 : 0);
        }
    }

    private static void flashingBeginsAnew() {
        ModeDesk desk = Checks.inBase();
        desk.sense(Checks.HEIGHT, 49700);
        desk.step(9);
        desk.sense(Checks.HEIGHT, 50000);
        Checks.due("nine steps from the later change", desk.step(9), 1);
        Checks.due("ten steps from it", desk.step(1), 0);
        ModeDesk apart = Checks.inApproach();
        apart.step(9);
        apart.sense(Checks.PATH_IN, 1);
        Checks.due("the other place does not begin anew", apart.step(1), 1);
        Checks.due("the vertical one flashes", apart.shown(), Checks.ON | Checks.VERTICAL_FLASH);
        apart.sense(Checks.SPEED, 10);
        Checks.due("a measure alone begins nothing", apart.step(9), 0);
    }

    private static void flashingEndsWithAButton() {
        for (int button = 0; button <= 9; button++) {
            ModeDesk desk = Checks.inGlide();
            desk.engage();
            Checks.due("both flash before " + button, desk.shown() & 24, 24);
            desk.press(button);
            Checks.due("none flashes behind " + button, desk.shown() & 24, 0);
            Checks.due("nor a step later", desk.step(1), 0);
        }
    }

    private static void flashingEndsWithOff() {
        ModeDesk desk = Checks.inGlide();
        desk.channel(0, false);
        Checks.due("the other channel leads: both flash", desk.shown() & 24, 24);
        desk.channel(1, false);
        Checks.due("off: none flashes", desk.shown(), Checks.SECOND_LEADS);
        Checks.due("off: no step counts", desk.step(1), 0);
        desk.channel(0, true);
        desk.press(Checks.DIRECTOR);
        Checks.due("on again: none flashes", desk.shown(), Checks.ON);
    }

    private static void buttonsOwnChangesDoNotFlash() {
        int[] buttons = {Checks.HEADING, Checks.CLIMB, Checks.LEVEL, Checks.HOLD, Checks.AROUND, Checks.SYNC,
            Checks.TRANSFER, Checks.DIRECTOR, Checks.DIRECTOR};
        ModeDesk desk = Checks.farBelow();
        for (int button : buttons) {
            Checks.due("press(" + button + ")", desk.press(button), 1);
            Checks.due("none flashes by " + button, desk.shown() & 24, 0);
        }
        ModeDesk engaged = Checks.farBelow();
        engaged.engage();
        Checks.due("none flashes by engage", engaged.step(1), 0);
    }

    private static void aWarningGoesOnUntilAcknowledged() {
        ModeDesk desk = Checks.farBelow();
        desk.engage();
        Checks.due("no warning at first", desk.shown() & Checks.WARNING, 0);
        desk.disconnect();
        desk.step(Integer.MAX_VALUE);
        for (int button = 0; button <= 9; button++) {
            desk.press(button);
            Checks.due("behind button " + button, desk.shown() & Checks.WARNING, Checks.WARNING);
        }
        Checks.due("off", desk.shown() & Checks.ON, 0);
        desk.engage();
        Checks.due("engaged", desk.shown() & 6, Checks.ENGAGED | Checks.WARNING);
        desk.channel(0, false);
        desk.channel(1, false);
        Checks.due("no channel", desk.shown() & 7, Checks.WARNING);
        Checks.due("acknowledged", desk.disconnect(), 1);
        Checks.due("no warning", desk.shown() & Checks.WARNING, 0);
        Checks.due("nothing to acknowledge", desk.disconnect(), 0);
    }

    private static void keptIsEmptyAtFirst() {
        ModeDesk desk = Checks.farBelow();
        desk.press(Checks.TRANSFER);
        desk.sense(Checks.COURSE_IN, 1);
        desk.channel(0, false);
        desk.disconnect();
        Checks.due("none while it stays off", desk.kept(0, 0), ModeDesk.NONE);
        desk.press(Checks.DIRECTOR);
        Checks.due("the first ones", Checks.changesFrom(desk, 0), "L0-1 V0-1");
    }

    /** On in ROLL and PITCH, with as many changes kept as asked for, in few calls: there are only 512. */
    private static ModeDesk withChanges(int count) {
        ModeDesk desk = Checks.inBase();
        int made = 2;
        if (count % 2 == 1) {
            desk.sense(Checks.COURSE_IN, 1);
            desk.press(Checks.NAV);
            desk.press(Checks.HEADING);
            desk.press(Checks.HEADING);
            desk.sense(Checks.COURSE_IN, 0);
            made = 5;
        }
        for (; made + 4 <= count; made += 4) {
            desk.press(Checks.AROUND);
            desk.press(Checks.SYNC);
        }
        for (; made < count; made += 2) {
            desk.press(Checks.HEADING);
            desk.press(Checks.HEADING);
        }
        return desk;
    }

    private static void theFirst300AreKept() {
        ModeDesk nearly = withChanges(KEPT - 1);
        Checks.due("the 299th", Checks.changesFrom(nearly, KEPT - 2), "L2-1");
        nearly.press(Checks.CLIMB);
        Checks.due("the 300th", Checks.changesFrom(nearly, KEPT - 1), "V1-2");
        nearly.press(Checks.LEVEL);
        Checks.due("the 300th stays", Checks.changesFrom(nearly, KEPT - 1), "V1-2");
        for (int what = 0; what <= 3; what++) {
            Checks.due("no 301st: " + what, nearly.kept(KEPT, what), ModeDesk.NONE);
        }
        Checks.due("the first stays", nearly.kept(0, 1) * 10 + nearly.kept(0, 2), 1);

        Checks.due("all are kept", Checks.changeCount(withChanges(KEPT)), KEPT);
    }

    private static void theLimitMayPartAPair() {
        ModeDesk desk = withChanges(KEPT - 1);
        desk.press(Checks.AROUND);
        Checks.due("the lateral one is the last", Checks.changesFrom(desk, KEPT - 1), "L1-5");
        Checks.dueModes("both places changed", desk, "AROUND/AROUND");
    }

    private static void allElseGoesOnWhenKeptIsFull() {
        ModeDesk desk = withChanges(KEPT);
        Checks.due("by itself is counted", desk.sense(Checks.HEIGHT, 50000), 2);
        Checks.dueModes("modes change", desk, "ROLL/HOLD");
        Checks.due("they flash", desk.shown(), Checks.ON | Checks.VERTICAL_FLASH);
        Checks.due("a button answers", desk.press(Checks.HEADING), 1);
        Checks.due("none is kept", Checks.changesFrom(desk, KEPT - 1), "L2-1");
        Checks.due("off", desk.press(Checks.DIRECTOR), 1);
        Checks.dueModes("off", desk, "off/off");
    }

    private static void the512thCallIsAnsweredStill() {
        ModeDesk desk = new ModeDesk();
        desk.sense(Checks.SELECTED, 50000);
        for (int call = 2; call < CALLS; call++) {
            desk.press(Checks.HEADING);
        }
        Checks.due("call 512", desk.press(Checks.AROUND), 1);
        ModeDesk read = Checks.inGlide();
        for (int call = 6; call < CALLS; call++) {
            Checks.due("call " + call, read.shown(), 25);
        }
        Checks.due("call 512", read.step(9), 2);
    }
}
