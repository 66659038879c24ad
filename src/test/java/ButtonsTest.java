/** Promise 2: what each of the buttons 0 to 9 does, from every state that its line tells apart. */
final class ButtonsTest {
    public static void main(String[] args) {
        buttonsTurnOnWithBase();
        nothingWithoutASoundChannel();
        heading();
        nav();
        approach();
        verticalModes();
        around();
        sync();
        transfer();
        director();
        whatComesBehindAButtonFlashes();
        Checks.finish("ButtonsTest");
    }

    private static void pressed(String what, ModeDesk desk, int button, int answer, String modes) {
        Checks.due(what + ": press(" + button + ")", desk.press(button), answer);
        Checks.dueModes(what + ": press(" + button + ")", desk, modes);
    }

    private static void buttonsTurnOnWithBase() {
        String[] modes = {"HEADING/PITCH C", "ROLL/PITCH N C", "ROLL/PITCH A G C", "ROLL/CLIMB C",
            "ROLL/LEVEL C", "ROLL/HOLD", "AROUND/AROUND", "ROLL/PITCH C"};
        String[] more = {" L1-2", "", "", " V1-2", " V1-3", " V1-4", " L1-5 V1-7", ""};
        for (int button = 0; button <= 7; button++) {
            ModeDesk desk = Checks.farBelow();
            pressed("off", desk, button, 1, modes[button]);
            Checks.due("on by " + button, Checks.changesFrom(desk, 0), "L0-1 V0-1" + more[button]);
            Checks.due("shown by " + button, desk.shown(), Checks.ON);
        }
        ModeDesk second = Checks.farBelow();
        second.channel(0, false);
        pressed("channel 0 not sound", second, Checks.HEADING, 1, "HEADING/PITCH C");
        Checks.due("the other one leads", second.shown(), Checks.ON | Checks.SECOND_LEADS);
    }

    private static void nothingWithoutASoundChannel() {
        for (int button = 0; button <= 9; button++) {
            ModeDesk desk = new ModeDesk();
            desk.channel(0, false);
            desk.channel(1, false);
            pressed("no channel", desk, button, 0, "off/off");
            Checks.due("no channel: shown by " + button, desk.shown(), 0);
            Checks.due("no channel: kept by " + button, Checks.changeCount(desk), 0);
        }
    }

    private static void heading() {
        ModeDesk desk = Checks.inBase();
        pressed("ROLL", desk, Checks.HEADING, 1, "HEADING/PITCH C");
        desk.press(Checks.APPROACH);
        pressed("HEADING, APPROACH armed", desk, Checks.HEADING, 1, "ROLL/PITCH A G C");
        pressed("ROLL, APPROACH armed", desk, Checks.HEADING, 1, "HEADING/PITCH A G C");
        Checks.due("HEADING's changes", Checks.changesFrom(desk, 2), "L1-2 L2-1 L1-2");
        pressed("NAV", Checks.inNav(), Checks.HEADING, 1, "HEADING/PITCH C");
        pressed("APPROACH, GLIDE armed", Checks.inApproach(), Checks.HEADING, 1, "HEADING/PITCH C");
        ModeDesk glide = Checks.inGlide();
        int before = Checks.changeCount(glide);
        pressed("APPROACH and GLIDE", glide, Checks.HEADING, 1, "HEADING/PITCH C");
        Checks.due("their changes", Checks.changesFrom(glide, before), "L4-2 V6-1");
        pressed("AROUND", Checks.inAround(), Checks.HEADING, 1, "HEADING/AROUND");
        ModeDesk armed = Checks.inBase();
        armed.press(Checks.NAV);
        pressed("NAV armed", armed, Checks.HEADING, 1, "HEADING/PITCH N C");
        ModeDesk hold = Checks.inApproach();
        hold.press(Checks.HOLD);
        pressed("APPROACH and HOLD", hold, Checks.HEADING, 1, "HEADING/HOLD");
    }

    private static void nav() {
        ModeDesk desk = Checks.inBase();
        pressed("ROLL", desk, Checks.NAV, 1, "ROLL/PITCH N C");
        pressed("NAV armed", desk, Checks.NAV, 1, "ROLL/PITCH C");
        desk.press(Checks.APPROACH);
        pressed("APPROACH armed", desk, Checks.NAV, 1, "ROLL/PITCH N C");
        ModeDesk nav = Checks.inNav();
        pressed("NAV", nav, Checks.NAV, 1, "ROLL/PITCH C");
        pressed("at once by itself", nav, Checks.NAV, 1, "NAV/PITCH C");
        Checks.due("NAV's changes", Checks.changesFrom(nav, 2), "L1-3* L3-1 L1-3*");
        nav.sense(Checks.COURSE, 101);
        nav.press(Checks.APPROACH);
        pressed("NAV, APPROACH armed", nav, Checks.NAV, 1, "ROLL/PITCH A G C");
        pressed("APPROACH, GLIDE armed", Checks.inApproach(), Checks.NAV, 0, "APPROACH/PITCH G C");
        pressed("APPROACH and GLIDE", Checks.inGlide(), Checks.NAV, 0, "APPROACH/GLIDE");
        pressed("AROUND", Checks.inAround(), Checks.NAV, 1, "AROUND/AROUND N");
    }

    private static void approach() {
        ModeDesk desk = Checks.inBase();
        pressed("ROLL", desk, Checks.APPROACH, 1, "ROLL/PITCH A G C");
        pressed("APPROACH armed", desk, Checks.APPROACH, 1, "ROLL/PITCH C");
        desk.press(Checks.NAV);
        pressed("NAV armed", desk, Checks.APPROACH, 1, "ROLL/PITCH A G C");
        pressed("APPROACH, GLIDE armed", Checks.inApproach(), Checks.APPROACH, 1, "ROLL/PITCH C");
        ModeDesk glide = Checks.inGlide();
        int before = Checks.changeCount(glide);
        pressed("APPROACH and GLIDE", glide, Checks.APPROACH, 1, "ROLL/PITCH C");
        Checks.due("their changes", Checks.changesFrom(glide, before), "L4-1 V6-1");
        ModeDesk hold = Checks.inApproach();
        hold.press(Checks.HOLD);
        pressed("APPROACH and HOLD", hold, Checks.APPROACH, 1, "ROLL/HOLD");
        ModeDesk nav = Checks.inNav();
        nav.sense(Checks.COURSE, 101);
        pressed("NAV", nav, Checks.APPROACH, 1, "NAV/PITCH A G C");
        pressed("NAV, APPROACH armed", nav, Checks.APPROACH, 1, "NAV/PITCH C");
    }

    private static void verticalModes() {
        String[] names = {"CLIMB C", "LEVEL C", "HOLD"};
        for (int k = 0; k < 3; k++) {
            int button = Checks.CLIMB + k;
            ModeDesk desk = Checks.inBase();
            pressed("PITCH", desk, button, 1, "ROLL/" + names[k]);
            pressed("that mode", desk, button, 1, "ROLL/PITCH C");
            pressed("GLIDE", Checks.inGlide(), button, 0, "APPROACH/GLIDE");
            pressed("AROUND", Checks.inAround(), button, 1, "AROUND/" + names[k]);
            ModeDesk other = Checks.inBase();
            other.press(Checks.CLIMB + (k + 1) % 3);
            pressed("another mode", other, button, 1, "ROLL/" + names[k]);
        }
        ModeDesk near = Checks.inBase();
        near.sense(Checks.HEIGHT, 49700);
        pressed("CAPTURE", near, Checks.CLIMB, 0, "ROLL/CAPTURE");
        pressed("CAPTURE", near, Checks.HOLD, 1, "ROLL/HOLD");
        pressed("PITCH near the height", near, Checks.HOLD, 1, "ROLL/CAPTURE");
        ModeDesk fast = Checks.inBase();
        fast.sense(Checks.SPEED, 400);
        pressed("not too fast for CLIMB", fast, Checks.CLIMB, 1, "ROLL/CLIMB C");
        fast.press(Checks.CLIMB);
        fast.sense(Checks.SPEED, 401);
        pressed("too fast for CLIMB", fast, Checks.CLIMB, 1, "ROLL/LEVEL C");
    }

    private static void around() {
        ModeDesk desk = Checks.inGlide();
        desk.engage();
        int before = Checks.changeCount(desk);
        pressed("engaged", desk, Checks.AROUND, 1, "AROUND/AROUND");
        Checks.due("a warning", desk.shown(), Checks.ON | Checks.WARNING);
        Checks.due("its changes", Checks.changesFrom(desk, before), "L4-5 V6-7");
        pressed("again", desk, Checks.AROUND, 0, "AROUND/AROUND");
        ModeDesk armed = Checks.inBase();
        armed.press(Checks.APPROACH);
        pressed("APPROACH armed", armed, Checks.AROUND, 1, "AROUND/AROUND");
        Checks.due("no warning, when not engaged", armed.shown(), Checks.ON);
        armed.press(Checks.NAV);
        pressed("NAV armed", armed, Checks.AROUND, 1, "AROUND/AROUND");
        pressed("APPROACH, GLIDE armed", Checks.inApproach(), Checks.AROUND, 1, "AROUND/AROUND");
    }

    private static void sync() {
        ModeDesk desk = Checks.inAround();
        int before = Checks.changeCount(desk);
        pressed("AROUND", desk, Checks.SYNC, 1, "ROLL/PITCH C");
        Checks.due("its changes", Checks.changesFrom(desk, before), "L5-1 V7-1");
        pressed("ROLL and PITCH", desk, Checks.SYNC, 0, "ROLL/PITCH C");
        pressed("APPROACH and GLIDE", Checks.inGlide(), Checks.SYNC, 0, "APPROACH/GLIDE");
        ModeDesk vertical = Checks.inAround();
        vertical.press(Checks.HEADING);
        pressed("vertical AROUND alone", vertical, Checks.SYNC, 1, "HEADING/PITCH C");
        ModeDesk lateral = Checks.inAround();
        lateral.press(Checks.HOLD);
        pressed("lateral AROUND alone", lateral, Checks.SYNC, 1, "ROLL/HOLD");
        ModeDesk armed = Checks.inAround();
        armed.press(Checks.NAV);
        pressed("AROUND, NAV armed", armed, Checks.SYNC, 1, "ROLL/PITCH N C");
    }

    private static void transfer() {
        ModeDesk desk = Checks.inGlide();
        desk.engage();
        int before = Checks.changeCount(desk);
        pressed("APPROACH and GLIDE", desk, Checks.TRANSFER, 1, "ROLL/PITCH C");
        Checks.due("engaged still", desk.shown(), Checks.ON | Checks.ENGAGED | Checks.SECOND_LEADS);
        Checks.due("its changes", Checks.changesFrom(desk, before), "L4-1 V6-1");
        pressed("back", desk, Checks.TRANSFER, 1, "ROLL/PITCH C");
        Checks.due("channel 0 leads again", desk.shown(), Checks.ON | Checks.ENGAGED);
        ModeDesk armed = Checks.inBase();
        armed.press(Checks.NAV);
        pressed("NAV armed", armed, Checks.TRANSFER, 1, "ROLL/PITCH C");
        armed.press(Checks.APPROACH);
        pressed("APPROACH armed", armed, Checks.TRANSFER, 1, "ROLL/PITCH C");
        ModeDesk lone = Checks.inNav();
        lone.channel(1, false);
        pressed("the other one is not sound", lone, Checks.TRANSFER, 0, "NAV/PITCH C");
        ModeDesk off = new ModeDesk();
        pressed("off", off, Checks.TRANSFER, 1, "off/off");
        Checks.due("off: channel 1 leads", off.shown(), Checks.SECOND_LEADS);
    }

    private static void director() {
        ModeDesk desk = Checks.farBelow();
        pressed("off", desk, Checks.DIRECTOR, 1, "ROLL/PITCH C");
        desk.press(Checks.APPROACH);
        int before = Checks.changeCount(desk);
        pressed("on", desk, Checks.DIRECTOR, 1, "off/off");
        Checks.due("its changes", Checks.changesFrom(desk, before), "L1-0 V1-0");
        Checks.due("shown nothing", desk.shown(), 0);
        desk.engage();
        pressed("engaged", desk, Checks.DIRECTOR, 0, "ROLL/PITCH C");
        Checks.due("engaged still", desk.shown(), Checks.ON | Checks.ENGAGED);
        ModeDesk second = Checks.farBelow();
        second.channel(0, false);
        pressed("channel 0 not sound", second, Checks.DIRECTOR, 1, "ROLL/PITCH C");
        Checks.due("channel 1 leads", second.shown(), Checks.ON | Checks.SECOND_LEADS);
    }

    private static void whatComesBehindAButtonFlashes() {
        ModeDesk desk = new ModeDesk();
        desk.press(Checks.DIRECTOR);
        desk.step(5);
        desk.press(Checks.HOLD);
        Checks.due("by itself behind a button flashes ten steps", desk.step(9), 1);
        Checks.due("and no more", desk.step(1), 0);
    }
}
