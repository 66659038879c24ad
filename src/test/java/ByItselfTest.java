/** Promises 3 to 5: what comes about by itself, a to j, with both sides of every limit. */
final class ByItselfTest {
    public static void main(String[] args) {
        aLeadingChannelFails();
        bCourseIsLost();
        cPathIsLost();
        dNavIsReached();
        eApproachIsReached();
        fGlideIsReached();
        gHeightComesNear();
        hHeightIsReached();
        iHeightIsLost();
        jClimbIsTooFast();
        theFirstThatHoldsComesAbout();
        nothingComesAboutWhileOff();
        Checks.finish("ByItselfTest");
    }

    private static void sensed(String what, ModeDesk desk, int measure, int v, int answer, String modes) {
        Checks.due(what + ": sense(" + measure + ", " + v + ")", desk.sense(measure, v), answer);
        Checks.dueModes(what + ": sense(" + measure + ", " + v + ")", desk, modes);
    }

    private static void aLeadingChannelFails() {
        ModeDesk desk = Checks.inGlide();
        desk.engage();
        int before = Checks.changeCount(desk);
        Checks.due("a: the other one leads", desk.channel(0, false), 1);
        Checks.dueModes("a: without BASE", desk, "APPROACH/GLIDE");
        Checks.due("a: engaged still", desk.shown() & 39, Checks.ON | Checks.ENGAGED | Checks.SECOND_LEADS);
        Checks.due("a: off", desk.channel(1, false), 1);
        Checks.dueModes("a: off", desk, "off/off");
        Checks.due("a: a warning, channel 1 leads still", desk.shown(), Checks.WARNING | Checks.SECOND_LEADS);
        Checks.due("a: its changes", Checks.changesFrom(desk, before), "L4-0* V6-0*");

        ModeDesk calm = Checks.inBase();
        calm.press(Checks.APPROACH);
        calm.channel(1, false);
        Checks.due("a: off when not engaged", calm.channel(0, false), 1);
        Checks.due("a: no warning then", calm.shown(), 0);
        Checks.dueModes("a: nothing is armed", calm, "off/off");
    }

    private static void bCourseIsLost() {
        ModeDesk nav = Checks.inNav();
        sensed("b: NAV", nav, Checks.COURSE_IN, 0, 1, "ROLL/PITCH C");
        sensed("b: NAV is not armed again", nav, Checks.COURSE_IN, 1, 0, "ROLL/PITCH C");
        sensed("b: APPROACH, GLIDE armed", Checks.inApproach(), Checks.COURSE_IN, 0, 1, "ROLL/PITCH C");
        ModeDesk glide = Checks.inGlide();
        glide.step(10);
        int before = Checks.changeCount(glide);
        sensed("b: GLIDE", glide, Checks.COURSE_IN, 0, 1, "ROLL/PITCH C");
        Checks.due("b: its changes", Checks.changesFrom(glide, before), "L4-1* V6-1*");
        Checks.due("b: both places flash", glide.shown(), Checks.ON | Checks.LATERAL_FLASH | Checks.VERTICAL_FLASH);
        ModeDesk armed = Checks.inNav();
        armed.sense(Checks.COURSE, 101);
        armed.press(Checks.APPROACH);
        sensed("b: NAV, APPROACH armed", armed, Checks.COURSE_IN, 0, 1, "ROLL/PITCH A G C");
        ModeDesk heading = Checks.inNav();
        heading.press(Checks.HEADING);
        sensed("b: HEADING", heading, Checks.COURSE_IN, 0, 0, "HEADING/PITCH C");
        ModeDesk hold = Checks.inApproach();
        hold.press(Checks.HOLD);
        sensed("b: HOLD", hold, Checks.COURSE_IN, 0, 1, "ROLL/HOLD");
    }

    private static void cPathIsLost() {
        ModeDesk desk = Checks.inGlide();
        desk.step(10);
        sensed("c: GLIDE", desk, Checks.PATH_IN, 0, 1, "APPROACH/PITCH C");
        Checks.due("c: flashes", desk.shown(), Checks.ON | Checks.VERTICAL_FLASH);
        sensed("c: GLIDE is not armed again", desk, Checks.PATH_IN, 1, 0, "APPROACH/PITCH C");
        ModeDesk armed = Checks.inApproach();
        armed.sense(Checks.PATH, 81);
        armed.sense(Checks.PATH_IN, 1);
        sensed("c: GLIDE armed", armed, Checks.PATH_IN, 0, 0, "APPROACH/PITCH G C");
        sensed("c: a far path is none lost", Checks.inGlide(), Checks.PATH, 1000, 0, "APPROACH/GLIDE");
    }

    private static void dNavIsReached() {
        for (int sign = -1; sign <= 1; sign += 2) {
            ModeDesk desk = Checks.inBase();
            desk.press(Checks.NAV);
            desk.sense(Checks.COURSE, sign * 151);
            sensed("d: too far", desk, Checks.COURSE_IN, 1, 0, "ROLL/PITCH N C");
            sensed("d: near", desk, Checks.COURSE, sign * 150, 1, "NAV/PITCH C");
            Checks.due("d: flashes", desk.shown(), Checks.ON | Checks.LATERAL_FLASH);
            sensed("d: NAV stays", desk, Checks.COURSE, sign * 1000, 0, "NAV/PITCH C");
        }
        ModeDesk unheard = Checks.inBase();
        unheard.press(Checks.NAV);
        sensed("d: not received", unheard, Checks.COURSE, 0, 0, "ROLL/PITCH N C");
        sensed("d: received", unheard, Checks.COURSE_IN, 1, 1, "NAV/PITCH C");
        sensed("d: not armed", Checks.inBase(), Checks.COURSE_IN, 1, 0, "ROLL/PITCH C");
    }

    private static void eApproachIsReached() {
        for (int sign = -1; sign <= 1; sign += 2) {
            ModeDesk desk = Checks.inBase();
            desk.press(Checks.APPROACH);
            desk.sense(Checks.COURSE, sign * 101);
            sensed("e: too far", desk, Checks.COURSE_IN, 1, 0, "ROLL/PITCH A G C");
            sensed("e: near", desk, Checks.COURSE, sign * 100, 1, "APPROACH/PITCH G C");
            Checks.due("e: flashes", desk.shown(), Checks.ON | Checks.LATERAL_FLASH);
        }
        ModeDesk unheard = Checks.inBase();
        unheard.press(Checks.APPROACH);
        sensed("e: not received", unheard, Checks.COURSE, 0, 0, "ROLL/PITCH A G C");
        ModeDesk nav = Checks.inNav();
        nav.sense(Checks.COURSE, 101);
        nav.press(Checks.APPROACH);
        sensed("e: from NAV", nav, Checks.COURSE, 100, 1, "APPROACH/PITCH G C");
    }

    private static void fGlideIsReached() {
        for (int sign = -1; sign <= 1; sign += 2) {
            ModeDesk desk = Checks.inApproach();
            desk.step(10);
            desk.sense(Checks.PATH, sign * 81);
            sensed("f: too far", desk, Checks.PATH_IN, 1, 0, "APPROACH/PITCH G C");
            sensed("f: near", desk, Checks.PATH, sign * 80, 1, "APPROACH/GLIDE");
            Checks.due("f: flashes", desk.shown(), Checks.ON | Checks.VERTICAL_FLASH);
        }
        sensed("f: not received", Checks.inApproach(), Checks.PATH, 0, 0, "APPROACH/PITCH G C");
        ModeDesk armed = Checks.inBase();
        armed.press(Checks.APPROACH);
        sensed("f: APPROACH armed only", armed, Checks.PATH_IN, 1, 0, "ROLL/PITCH A G C");
        sensed("f: e, then f", armed, Checks.COURSE_IN, 1, 2, "APPROACH/GLIDE");
        ModeDesk hold = Checks.inApproach();
        hold.press(Checks.HOLD);
        sensed("f: from HOLD", hold, Checks.PATH_IN, 1, 1, "APPROACH/GLIDE");
        ModeDesk around = Checks.inAround();
        around.press(Checks.APPROACH);
        around.sense(Checks.PATH_IN, 1);
        sensed("f: from AROUND", around, Checks.COURSE_IN, 1, 2, "APPROACH/GLIDE");
    }

    private static void gHeightComesNear() {
        int[] buttons = {Checks.SYNC, Checks.CLIMB, Checks.LEVEL};
        String[] names = {"PITCH C", "CLIMB C", "LEVEL C"};
        for (int k = 0; k < buttons.length; k++) {
            ModeDesk below = Checks.inBase();
            below.press(buttons[k]);
            sensed("g: too low", below, Checks.HEIGHT, 49599, 0, "ROLL/" + names[k]);
            sensed("g: from below", below, Checks.HEIGHT, 49600, 1, "ROLL/CAPTURE");
            Checks.due("g: flashes", below.shown(), Checks.ON | Checks.VERTICAL_FLASH);
            ModeDesk above = Checks.inBase();
            above.press(buttons[k]);
            above.sense(Checks.HEIGHT, 20000);
            sensed("g: too high", above, Checks.SELECTED, 19599, 0, "ROLL/" + names[k]);
            sensed("g: from above", above, Checks.SELECTED, 19600, 1, "ROLL/CAPTURE");
        }
        ModeDesk hold = Checks.inBase();
        hold.press(Checks.HOLD);
        sensed("g: HOLD", hold, Checks.HEIGHT, 49900, 0, "ROLL/HOLD");
        sensed("g: GLIDE", Checks.inGlide(), Checks.HEIGHT, 49900, 0, "APPROACH/GLIDE");
        sensed("g: AROUND", Checks.inAround(), Checks.HEIGHT, 49900, 0, "AROUND/AROUND");
        ModeDesk asked = Checks.inAround();
        asked.sense(Checks.HEIGHT, 49900);
        Checks.due("g: when PITCH is asked for", asked.press(Checks.SYNC), 1);
        Checks.dueModes("g: when PITCH is asked for", asked, "ROLL/CAPTURE");
    }

    private static void hHeightIsReached() {
        ModeDesk below = Checks.inBase();
        below.sense(Checks.HEIGHT, 49700);
        sensed("h: too low", below, Checks.HEIGHT, 49979, 0, "ROLL/CAPTURE");
        sensed("h: from below", below, Checks.HEIGHT, 49980, 1, "ROLL/HOLD");
        sensed("h: HOLD stays", below, Checks.SELECTED, 0, 0, "ROLL/HOLD");
        ModeDesk above = Checks.inBase();
        above.sense(Checks.HEIGHT, 20000);
        above.sense(Checks.SELECTED, 19700);
        sensed("h: too high", above, Checks.SELECTED, 19979, 0, "ROLL/CAPTURE");
        sensed("h: from above", above, Checks.SELECTED, 19980, 1, "ROLL/HOLD");
        sensed("h: g, then h", Checks.inBase(), Checks.HEIGHT, 50000, 2, "ROLL/HOLD");
    }

    private static void iHeightIsLost() {
        ModeDesk desk = Checks.inBase();
        desk.sense(Checks.HEIGHT, 49700);
        desk.step(10);
        sensed("i: near", desk, Checks.HEIGHT, 49600, 0, "ROLL/CAPTURE");
        sensed("i: lost", desk, Checks.HEIGHT, 49599, 1, "ROLL/PITCH C");
        Checks.due("i: flashes", desk.shown(), Checks.ON | Checks.VERTICAL_FLASH);
        sensed("i: near again", desk, Checks.HEIGHT, 49600, 1, "ROLL/CAPTURE");
        sensed("i: another height is selected", desk, Checks.SELECTED, 0, 1, "ROLL/PITCH C");
        ModeDesk above = Checks.inBase();
        above.sense(Checks.HEIGHT, 20000);
        above.sense(Checks.SELECTED, 19700);
        sensed("i: near from above", above, Checks.HEIGHT, 20100, 0, "ROLL/CAPTURE");
        sensed("i: lost from above", above, Checks.HEIGHT, 20101, 1, "ROLL/PITCH C");
    }

    private static void jClimbIsTooFast() {
        ModeDesk desk = Checks.inBase();
        desk.press(Checks.CLIMB);
        sensed("j: 400", desk, Checks.SPEED, 400, 0, "ROLL/CLIMB C");
        sensed("j: 401", desk, Checks.SPEED, 401, 1, "ROLL/LEVEL C");
        Checks.due("j: flashes", desk.shown(), Checks.ON | Checks.VERTICAL_FLASH);
        sensed("j: slow again", desk, Checks.SPEED, 0, 0, "ROLL/LEVEL C");
        sensed("j: PITCH", Checks.inBase(), Checks.SPEED, 600, 0, "ROLL/PITCH C");
    }

    private static void theFirstThatHoldsComesAbout() {
        ModeDesk fast = Checks.inBase();
        fast.press(Checks.HOLD);
        fast.sense(Checks.HEIGHT, 49900);
        fast.sense(Checks.SPEED, 600);
        int before = Checks.changeCount(fast);
        fast.press(Checks.CLIMB);
        Checks.due("g comes before j", Checks.changesFrom(fast, before), "V4-2 V2-5*");

        ModeDesk glide = Checks.inApproach();
        glide.press(Checks.HOLD);
        glide.sense(Checks.PATH, 81);
        glide.sense(Checks.PATH_IN, 1);
        glide.sense(Checks.HEIGHT, 49900);
        glide.press(Checks.HOLD);
        Checks.dueModes("CAPTURE, GLIDE armed", glide, "APPROACH/CAPTURE G");
        glide.press(Checks.APPROACH);
        glide.press(Checks.HOLD);
        glide.sense(Checks.PATH, 0);
        glide.sense(Checks.COURSE_IN, 0);
        glide.press(Checks.APPROACH);
        before = Checks.changeCount(glide);
        Checks.due("e, then f", glide.sense(Checks.COURSE_IN, 1), 2);
        Checks.due("f follows e", Checks.changesFrom(glide, before), "L1-4* V4-6*");

        ModeDesk off = Checks.farBelow();
        off.sense(Checks.COURSE_IN, 1);
        off.sense(Checks.PATH_IN, 1);
        off.sense(Checks.HEIGHT, 49900);
        off.press(Checks.APPROACH);
        Checks.due("e and f come before g", Checks.changesFrom(off, 0), "L0-1 V0-1 L1-4* V1-6*");
    }

    private static void nothingComesAboutWhileOff() {
        ModeDesk desk = new ModeDesk();
        int[] told = {0, 0, 900, 1000, 500, 1, 1};
        for (int what = 0; what < 7; what++) {
            Checks.due("off: sense " + what, desk.sense(what, told[what]), 0);
        }
        Checks.due("off: channel 0", desk.channel(0, false), 0);
        Checks.due("off: channel 1", desk.channel(1, false), 0);
        Checks.due("off: step", desk.step(1), 0);
        Checks.due("off: channel 0 leads still", desk.shown(), 0);
    }
}
