/**
 * Promises 2 to 12: for each argument the last value that is still allowed and the first that is not, on either side,
 * and what a refused call answers, throws and leaves as it was.
 */
final class RefusedTest {
    private static final int LEAST = Integer.MIN_VALUE;
    private static final int MOST = Integer.MAX_VALUE;
    private static final int[] LOWEST = {-1000, -1000, 0, 0, 0, 0, 0};
    private static final int[] HIGHEST = {1000, 1000, 50000, 50000, 600, 1, 1};

    public static void main(String[] args) {
        pressTakes0To9();
        senseTakesMeasures0To6();
        for (int what = 0; what < LOWEST.length; what++) {
            senseTakesTheRangeOf(what);
        }
        channelTakes0And1();
        stepTakes1AndMore();
        modeTakes0And1();
        armedTakes0To3();
        keptHasNothingAtFirst();
        keptEndsBehindItsLastChange();
        keptTellsOfFourThings();
        measureTakes0To6();
        engageIsRefusedWhileEngaged();
        engageIsRefusedWithoutASoundChannel();
        engageIsRefusedInAround();
        engageIsRefusedAbove400();
        disconnectWithoutAWarning();
        Checks.finish("RefusedTest");
    }

    /** Everything is there that a call could spoil: both places flash, engaged, a warning, channel 1 leads. */
    private static ModeDesk lively() {
        ModeDesk desk = Checks.farBelow();
        desk.engage();
        desk.disconnect();
        desk.engage();
        desk.press(Checks.TRANSFER);
        desk.press(Checks.APPROACH);
        desk.sense(Checks.HEIGHT, 49000);
        desk.sense(Checks.SPEED, 300);
        desk.sense(Checks.COURSE, -90);
        desk.sense(Checks.PATH, 70);
        desk.sense(Checks.COURSE_IN, 1);
        desk.sense(Checks.PATH_IN, 1);
        Checks.due("lively", Checks.everything(desk),
            "APPROACH/GLIDE, shown 63, measures -90 70 49000 50000 300 1 1, kept L0-1 V0-1 L1-4* V1-6*");
        return desk;
    }

    private static void refusedAndNothingChanged(String what, ModeDesk desk, Checks.Call call) {
        String before = Checks.everything(desk);
        Checks.refused(what, call);
        Checks.due("behind " + what, Checks.everything(desk), before);
        Checks.due("nine steps behind " + what, desk.step(9), 2);
        Checks.due("ten steps behind " + what, desk.step(1), 0);
    }

    private static void pressTakes0To9() {
        ModeDesk low = Checks.farBelow();
        Checks.due("press(0)", low.press(0), 1);
        Checks.dueModes("press(0)", low, "HEADING/PITCH C");
        ModeDesk high = Checks.farBelow();
        Checks.due("press(9)", high.press(9), 1);
        Checks.dueModes("press(9)", high, "ROLL/PITCH C");
        for (int button : new int[] {-1, 10, LEAST, MOST}) {
            ModeDesk desk = lively();
            refusedAndNothingChanged("press(" + button + ")", desk, () -> desk.press(button));
            ModeDesk off = new ModeDesk();
            Checks.refused("press(" + button + ") while off", () -> off.press(button));
            Checks.due("off behind press(" + button + ")", off.shown(), 0);
        }
    }

    private static void senseTakesMeasures0To6() {
        ModeDesk told = new ModeDesk();
        Checks.due("sense(0, 1)", told.sense(0, 1), 0);
        Checks.due("measure 0 is told", told.measure(0), 1);
        Checks.due("sense(6, 1)", told.sense(6, 1), 0);
        Checks.due("measure 6 is told", told.measure(6), 1);
        for (int what : new int[] {-1, 7, LEAST, MOST}) {
            for (int v : new int[] {0, 1, LEAST, MOST}) {
                ModeDesk desk = lively();
                refusedAndNothingChanged("sense(" + what + ", " + v + ")", desk, () -> desk.sense(what, v));
            }
        }
    }

    private static void senseTakesTheRangeOf(int what) {
        ModeDesk told = new ModeDesk();
        for (int v : new int[] {HIGHEST[what], LOWEST[what]}) {
            Checks.due("sense(" + what + ", " + v + ")", told.sense(what, v), 0);
            Checks.due("measure " + what + " is " + v, told.measure(what), v);
        }
        for (int v : new int[] {LOWEST[what] - 1, HIGHEST[what] + 1, LEAST, MOST}) {
            ModeDesk desk = lively();
            refusedAndNothingChanged("sense(" + what + ", " + v + ")", desk, () -> desk.sense(what, v));
            ModeDesk off = new ModeDesk();
            Checks.refused("sense(" + what + ", " + v + ") while off", () -> off.sense(what, v));
            Checks.due("measure behind sense(" + what + ", " + v + ")", off.measure(what), 0);
        }
    }

    private static void channelTakes0And1() {
        for (int c = 0; c <= 1; c++) {
            ModeDesk desk = Checks.inBase();
            Checks.due("channel(" + c + ", false)", desk.channel(c, false), 1 - c);
            Checks.due("channel " + (1 - c) + " leads", desk.shown(), c == 0 ? 33 : 1);
        }
        for (int c : new int[] {-1, 2, LEAST, MOST}) {
            for (boolean sound : new boolean[] {false, true}) {
                ModeDesk desk = lively();
                refusedAndNothingChanged("channel(" + c + ", " + sound + ")", desk, () -> desk.channel(c, sound));
            }
        }
        ModeDesk both = Checks.inBase();
        Checks.refused("channel(2, false)", () -> both.channel(2, false));
        Checks.refused("channel(-1, false)", () -> both.channel(-1, false));
        Checks.due("channel 1 is sound still", both.press(Checks.TRANSFER), 1);
        Checks.due("channel 0 is sound still", both.press(Checks.TRANSFER), 1);
    }

    private static void stepTakes1AndMore() {
        Checks.due("step(1)", Checks.inGlide().step(1), 2);
        ModeDesk patient = Checks.inGlide();
        Checks.due("the most steps", patient.step(MOST), 0);
        Checks.due("and once more", patient.step(MOST), 0);
        patient.sense(Checks.PATH_IN, 0);
        Checks.due("it flashes for ten again", patient.step(9), 1);
        Checks.due("and no longer", patient.step(1), 0);
        for (int n : new int[] {0, -1, -10, LEAST}) {
            ModeDesk desk = lively();
            refusedAndNothingChanged("step(" + n + ")", desk, () -> desk.step(n));
            Checks.refused("step(" + n + ") while off", () -> new ModeDesk().step(n));
        }
    }

    private static void modeTakes0And1() {
        ModeDesk told = Checks.inGlide();
        Checks.due("mode(0)", told.mode(0), 4);
        Checks.due("mode(1)", told.mode(1), 6);
        for (int place : new int[] {-1, 2, LEAST, MOST}) {
            ModeDesk desk = lively();
            refusedAndNothingChanged("mode(" + place + ")", desk, () -> desk.mode(place));
            Checks.refused("mode(" + place + ") while off", () -> new ModeDesk().mode(place));
        }
    }

    private static void armedTakes0To3() {
        ModeDesk told = Checks.inBase();
        told.press(Checks.NAV);
        Checks.due("armed(0)", told.armed(0), true);
        Checks.due("armed(3)", told.armed(3), true);
        for (int which : new int[] {-1, 4, LEAST, MOST}) {
            ModeDesk desk = lively();
            refusedAndNothingChanged("armed(" + which + ")", desk, () -> desk.armed(which));
            Checks.refused("armed(" + which + ") while off", () -> new ModeDesk().armed(which));
        }
    }

    private static void keptHasNothingAtFirst() {
        ModeDesk desk = new ModeDesk();
        for (int i : new int[] {0, 1, 299, 300, -1, LEAST, MOST}) {
            for (int what = -1; what <= 4; what++) {
                Checks.due("new: kept(" + i + ", " + what + ")", desk.kept(i, what), ModeDesk.NONE);
            }
        }
    }

    private static void keptEndsBehindItsLastChange() {
        ModeDesk desk = Checks.inBase();
        Checks.due("the first", desk.kept(0, 2), 1);
        Checks.due("the last", desk.kept(1, 0), 1);
        for (int i : new int[] {-1, 2, 299, 300, LEAST, MOST}) {
            for (int what = 0; what <= 3; what++) {
                Checks.due("kept(" + i + ", " + what + ")", desk.kept(i, what), ModeDesk.NONE);
            }
        }
        desk.press(Checks.HEADING);
        Checks.due("one more", desk.kept(2, 2), 2);
        Checks.due("none behind it", desk.kept(3, 2), ModeDesk.NONE);
    }

    private static void keptTellsOfFourThings() {
        ModeDesk desk = Checks.inGlide();
        int[] due = {1, 1, 6, 1};
        for (int what = 0; what <= 3; what++) {
            Checks.due("kept(3, " + what + ")", desk.kept(3, what), due[what]);
        }
        for (int what : new int[] {-1, 4, LEAST, MOST}) {
            Checks.due("kept(3, " + what + ")", desk.kept(3, what), ModeDesk.NONE);
            Checks.due("kept(-1, " + what + ")", desk.kept(-1, what), ModeDesk.NONE);
        }
    }

    private static void measureTakes0To6() {
        ModeDesk told = lively();
        Checks.due("measure(0)", told.measure(0), -90);
        Checks.due("measure(6)", told.measure(6), 1);
        for (int what : new int[] {-1, 7, LEAST, MOST}) {
            ModeDesk desk = lively();
            refusedAndNothingChanged("measure(" + what + ")", desk, () -> desk.measure(what));
        }
    }

    private static void engageIsRefusedWhileEngaged() {
        ModeDesk desk = lively();
        String before = Checks.everything(desk);
        Checks.due("engage while engaged", desk.engage(), 0);
        Checks.due("behind it", Checks.everything(desk), before);
        desk.disconnect();
        Checks.due("engage when it is not any more", desk.engage(), 1);
    }

    private static void engageIsRefusedWithoutASoundChannel() {
        for (int sound = 0; sound <= 1; sound++) {
            ModeDesk desk = Checks.farBelow();
            desk.channel(0, false);
            desk.channel(1, false);
            Checks.due("engage without a sound channel", desk.engage(), 0);
            Checks.due("it stays off", Checks.everything(desk), Checks.everything(Checks.farBelow()));
            desk.channel(sound, true);
            Checks.due("engage with channel " + sound, desk.engage(), 1);
            Checks.due("channel " + sound + " leads", desk.shown(), sound == 0 ? 3 : 35);
            Checks.dueModes("on with BASE", desk, "ROLL/PITCH C");
        }
    }

    private static void engageIsRefusedInAround() {
        ModeDesk desk = Checks.inAround();
        Checks.due("engage in AROUND", desk.engage(), 0);
        desk.press(Checks.HEADING);
        Checks.dueModes("AROUND in the vertical place", desk, "HEADING/AROUND");
        Checks.due("engage in vertical AROUND", desk.engage(), 0);
        desk.press(Checks.AROUND);
        desk.press(Checks.LEVEL);
        Checks.dueModes("AROUND in the lateral place", desk, "AROUND/LEVEL C");
        Checks.due("engage in lateral AROUND", desk.engage(), 0);
        Checks.due("not engaged", desk.shown(), Checks.ON);
        desk.press(Checks.HEADING);
        Checks.due("engage without AROUND", desk.engage(), 1);
    }

    private static void engageIsRefusedAbove400() {
        for (int v : new int[] {401, 600}) {
            ModeDesk off = Checks.farBelow();
            off.sense(Checks.SPEED, v);
            Checks.due("engage at " + v, off.engage(), 0);
            Checks.due("it stays off at " + v, off.shown(), 0);
            ModeDesk on = Checks.inBase();
            on.sense(Checks.SPEED, v);
            Checks.due("engage at " + v + " while on", on.engage(), 0);
            Checks.due("it stays on at " + v, on.shown(), Checks.ON);
        }
        ModeDesk desk = Checks.farBelow();
        desk.sense(Checks.SPEED, 400);
        Checks.due("engage at 400", desk.engage(), 1);
        Checks.due("a later speed does not disengage", desk.sense(Checks.SPEED, 600), 0);
        Checks.due("still engaged at 600", desk.shown(), Checks.ON | Checks.ENGAGED);
    }

    private static void disconnectWithoutAWarning() {
        ModeDesk off = new ModeDesk();
        Checks.due("disconnect while off", off.disconnect(), 0);
        Checks.due("behind it", Checks.everything(off), Checks.everything(new ModeDesk()));
        ModeDesk on = Checks.inBase();
        Checks.due("disconnect while not engaged", on.disconnect(), 0);
        Checks.due("behind it", Checks.everything(on), Checks.everything(Checks.inBase()));
    }
}
