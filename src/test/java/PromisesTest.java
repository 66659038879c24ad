/** Promises 1 to 12: each call's ordinary answers; RefusedTest has the wrong inputs, TermsTest the limits. */
final class PromisesTest {
    public static void main(String[] args) {
        aNewDeskIsOff();
        pressAnswersWhetherAnythingChanged();
        senseAnswersHowManyCameAbout();
        channelAnswersHowManyCameAbout();
        engageTurnsOnAndEngages();
        engageIsNoButton();
        disconnectAnswers();
        stepCountsPlacesThatFlash();
        modeAnswersBothPlaces();
        armedAnswersFourModes();
        shownHasEveryBit();
        keptAnswersEachChange();
        measureAnswersWhatWasTold();
        Checks.finish("PromisesTest");
    }

    private static void aNewDeskIsOff() {
        ModeDesk desk = new ModeDesk();
        Checks.dueModes("new", desk, "off/off");
        Checks.due("new: shown", desk.shown(), 0);
        Checks.due("new: kept", desk.kept(0, 0), ModeDesk.NONE);
        for (int what = 0; what < 7; what++) {
            Checks.due("new: measure " + what, desk.measure(what), 0);
        }
        Checks.due("new: disconnect", desk.disconnect(), 0);
        Checks.due("new: step", desk.step(1), 0);
        Checks.due("new: both channels are sound", desk.press(Checks.TRANSFER) + desk.press(Checks.TRANSFER), 2);
        Checks.due("NONE", ModeDesk.NONE, -1);
    }

    private static void pressAnswersWhetherAnythingChanged() {
        ModeDesk desk = Checks.farBelow();
        Checks.due("press turns on", desk.press(Checks.SYNC), 1);
        Checks.due("press without effect", desk.press(Checks.SYNC), 0);
        Checks.due("press changes the active mode", desk.press(Checks.HEADING), 1);
        Checks.due("press arms", desk.press(Checks.NAV), 1);
        Checks.due("press disarms", desk.press(Checks.NAV), 1);
        Checks.due("press lets the other lead", desk.press(Checks.TRANSFER), 1);
        Checks.due("press turns off", desk.press(Checks.DIRECTOR), 1);

        ModeDesk held = new ModeDesk();
        held.press(Checks.DIRECTOR);
        Checks.dueModes("at the height", held, "ROLL/HOLD");
        int before = Checks.changeCount(held);
        Checks.due("press that ends where it began", held.press(Checks.CLIMB), 0);
        Checks.due("its changes", Checks.changesFrom(held, before), "V4-2 V2-5* V5-4*");
        Checks.due("it flashes", held.shown(), Checks.ON | Checks.VERTICAL_FLASH);
        Checks.due("HOLD off and on again", held.press(Checks.HOLD), 0);
    }

    private static void senseAnswersHowManyCameAbout() {
        ModeDesk desk = Checks.inBase();
        Checks.due("sense without effect", desk.sense(Checks.HEIGHT, 49599), 0);
        Checks.due("sense: g", desk.sense(Checks.HEIGHT, 49600), 1);
        Checks.due("sense: h", desk.sense(Checks.HEIGHT, 50000), 1);
        desk.sense(Checks.COURSE_IN, 1);
        desk.sense(Checks.PATH_IN, 1);
        desk.press(Checks.APPROACH);
        Checks.dueModes("on the path", desk, "APPROACH/GLIDE");
        Checks.due("sense: b with two places counts once, then g, h", desk.sense(Checks.COURSE_IN, 0), 3);
        Checks.due("sense while off", new ModeDesk().sense(Checks.COURSE_IN, 1), 0);
    }

    private static void channelAnswersHowManyCameAbout() {
        ModeDesk desk = Checks.inBase();
        Checks.due("the other one fails", desk.channel(1, false), 0);
        Checks.due("the other one is sound again", desk.channel(1, true), 0);
        Checks.due("the leading one fails", desk.channel(0, false), 1);
        Checks.due("channel 1 leads", desk.shown(), Checks.ON | Checks.SECOND_LEADS);
        Checks.due("the leading one comes back", desk.channel(0, true), 0);
        Checks.due("it does not lead again", desk.shown(), Checks.ON | Checks.SECOND_LEADS);
        Checks.due("channel 0 fails again", desk.channel(0, false), 0);
        Checks.due("both have failed", desk.channel(1, false), 1);
        Checks.due("off", desk.shown(), Checks.SECOND_LEADS);
        Checks.due("while off", new ModeDesk().channel(0, false), 0);
    }

    private static void engageTurnsOnAndEngages() {
        ModeDesk desk = Checks.farBelow();
        Checks.due("engage from off", desk.engage(), 1);
        Checks.dueModes("engage from off", desk, "ROLL/PITCH C");
        Checks.due("engage from off: shown", desk.shown(), Checks.ON | Checks.ENGAGED);
        Checks.due("its changes are not by itself", Checks.changesFrom(desk, 0), "L0-1 V0-1");
        Checks.due("engage again", desk.engage(), 0);

        ModeDesk on = Checks.inNav();
        Checks.due("engage while on", on.engage(), 1);
        Checks.dueModes("engage while on", on, "NAV/PITCH C");

        ModeDesk low = new ModeDesk();
        low.engage();
        Checks.due("by itself behind engage", Checks.changesFrom(low, 0), "L0-1 V0-1 V1-5* V5-4*");

        ModeDesk second = Checks.farBelow();
        second.channel(0, false);
        Checks.due("engage with the leading channel not sound", second.engage(), 1);
        Checks.due("the other one leads", second.shown(), Checks.ON | Checks.ENGAGED | Checks.SECOND_LEADS);
    }

    private static void engageIsNoButton() {
        ModeDesk desk = new ModeDesk();
        desk.press(Checks.DIRECTOR);
        desk.engage();
        Checks.due("engage leaves the flashing", desk.shown(), Checks.ON | Checks.ENGAGED | Checks.VERTICAL_FLASH);
        desk.disconnect();
        Checks.due("disconnect leaves the flashing", desk.shown(), Checks.ON | Checks.WARNING | Checks.VERTICAL_FLASH);
    }

    private static void disconnectAnswers() {
        ModeDesk desk = Checks.farBelow();
        desk.engage();
        Checks.due("disconnect while engaged", desk.disconnect(), 2);
        Checks.due("a warning", desk.shown(), Checks.ON | Checks.WARNING);
        desk.engage();
        Checks.due("engage does not acknowledge", desk.shown(), Checks.ON | Checks.ENGAGED | Checks.WARNING);
        Checks.due("disconnect with a warning", desk.disconnect(), 2);
        desk.step(1000);
        desk.press(Checks.DIRECTOR);
        Checks.due("the warning goes on while off", desk.shown(), Checks.WARNING);
        Checks.due("acknowledged", desk.disconnect(), 1);
        Checks.due("nothing more", desk.disconnect(), 0);
        Checks.due("shown nothing", desk.shown(), 0);
    }

    private static void stepCountsPlacesThatFlash() {
        ModeDesk desk = Checks.inGlide();
        Checks.due("GLIDE behind APPROACH", desk.step(9), 2);
        Checks.due("the tenth step", desk.step(1), 0);
        Checks.due("none is left", desk.shown(), Checks.ON);

        ModeDesk apart = Checks.inApproach();
        Checks.due("one place", apart.step(4), 1);
        apart.sense(Checks.PATH_IN, 1);
        Checks.due("both places", apart.step(5), 2);
        Checks.due("the later one", apart.step(1), 1);
        Checks.due("the later one shown", apart.shown(), Checks.ON | Checks.VERTICAL_FLASH);
        Checks.due("many steps", apart.step(1000), 0);

        ModeDesk anew = Checks.inBase();
        anew.sense(Checks.HEIGHT, 49700);
        anew.step(9);
        anew.sense(Checks.HEIGHT, 50000);
        Checks.due("anew", anew.step(9), 1);
        Checks.due("anew for ten", anew.step(1), 0);

        ModeDesk pressed = Checks.inGlide();
        pressed.press(Checks.CLIMB);
        Checks.due("a button ends it, without any effect too", pressed.step(1), 0);
        ModeDesk off = Checks.inGlide();
        off.channel(0, false);
        Checks.due("another leading channel does not end it", off.step(1), 2);
        off.channel(1, false);
        Checks.due("off ends it", off.step(1), 0);
    }

    private static void modeAnswersBothPlaces() {
        ModeDesk desk = Checks.inGlide();
        Checks.due("APPROACH", desk.mode(0), 4);
        Checks.due("GLIDE", desk.mode(1), 6);
    }

    private static void armedAnswersFourModes() {
        ModeDesk desk = Checks.inBase();
        desk.press(Checks.NAV);
        Checks.due("NAV", desk.armed(0), true);
        Checks.due("APPROACH beside NAV", desk.armed(1), false);
        desk.press(Checks.APPROACH);
        Checks.due("NAV beside APPROACH", desk.armed(0), false);
        Checks.due("APPROACH", desk.armed(1), true);
        Checks.due("GLIDE", desk.armed(2), true);
        Checks.due("CAPTURE in PITCH", desk.armed(3), true);
        desk.press(Checks.CLIMB);
        Checks.due("CAPTURE in CLIMB", desk.armed(3), true);
        desk.press(Checks.LEVEL);
        Checks.due("CAPTURE in LEVEL", desk.armed(3), true);
        desk.press(Checks.HOLD);
        Checks.due("CAPTURE in HOLD", desk.armed(3), false);
        Checks.due("CAPTURE in GLIDE", Checks.inGlide().armed(3), false);
        Checks.due("CAPTURE in AROUND", Checks.inAround().armed(3), false);
        desk.press(Checks.DIRECTOR);
        Checks.dueModes("off", desk, "off/off");
    }

    private static void shownHasEveryBit() {
        ModeDesk desk = Checks.farBelow();
        desk.engage();
        desk.disconnect();
        desk.engage();
        desk.press(Checks.TRANSFER);
        Checks.due("four bits", desk.shown(), 1 + 2 + 4 + 32);
        desk.press(Checks.APPROACH);
        desk.sense(Checks.COURSE_IN, 1);
        Checks.due("the lateral one flashes", desk.shown(), 1 + 2 + 4 + 8 + 32);
        desk.sense(Checks.PATH_IN, 1);
        Checks.due("every bit", desk.shown(), 63);
    }

    private static void keptAnswersEachChange() {
        ModeDesk desk = new ModeDesk();
        desk.press(Checks.AROUND);
        desk.press(Checks.SYNC);
        desk.press(Checks.DIRECTOR);
        Checks.due("all changes", Checks.changesFrom(desk, 0),
            "L0-1 V0-1 L1-5 V1-7 L5-1 V7-1 V1-5* V5-4* L1-0 V4-0");
        Checks.due("the place", desk.kept(3, 0), 1);
        Checks.due("before", desk.kept(3, 1), 1);
        Checks.due("behind", desk.kept(3, 2), 7);
        Checks.due("by a button", desk.kept(3, 3), 0);
        Checks.due("by itself", desk.kept(6, 3), 1);
        int before = Checks.changeCount(desk);
        desk.press(Checks.TRANSFER);
        Checks.due("a leading channel is no change of modes", Checks.changeCount(desk), before);
    }

    private static void measureAnswersWhatWasTold() {
        ModeDesk desk = new ModeDesk();
        int[] told = {-7, 8, 900, 1000, 111, 1, 1};
        for (int what = 0; what < 7; what++) {
            desk.sense(what, told[what]);
        }
        for (int what = 0; what < 7; what++) {
            Checks.due("measure " + what, desk.measure(what), told[what]);
        }
        desk.press(Checks.DIRECTOR);
        desk.press(Checks.DIRECTOR);
        Checks.due("on and off leave it", desk.measure(2), 900);
    }
}
