import java.util.Random;

/**
 * Runs of calls, always the same ones: what the document's Terms say must hold behind each of them. Looking is a call
 * too and an object has only 512, so each run is made in every length and looked at behind its last call alone.
 */
final class WalkTest {
    private static final int RUNS = 150;
    private static final int LONGEST = 50;
    private static final int[] DEVIATIONS = {0, 80, -80, 81, 100, -100, 101, 150, -150, 151, 1000, -1000};
    private static final int[] HEIGHTS = {0, 20, 21, 379, 380, 400, 401, 420, 421, 800, 50000};
    private static final int[] SPEEDS = {0, 400, 401, 600};

    public static void main(String[] args) {
        for (int run = 0; run < RUNS; run++) {
            for (int calls = 1; calls <= LONGEST; calls++) {
                walk(run, calls);
            }
        }
        Checks.finish("WalkTest");
    }

    private static void walk(int run, int calls) {
        Random random = new Random(run);
        ModeDesk desk = new ModeDesk();
        for (int call = 1; call < calls; call++) {
            oneCall(desk, random);
        }
        String what = "run " + run + ", call " + calls;
        oneCallLookedAt(what, desk, random);
        termsHold(what, desk);
        changesFitTogether(what, desk);
    }

    private static void oneCall(ModeDesk desk, Random random) {
        switch (random.nextInt(8)) {
            case 0, 1, 2 -> desk.press(random.nextInt(10));
            case 3, 4 -> senseOne(desk, random);
            case 5 -> desk.channel(random.nextInt(2), random.nextInt(4) > 0);
            case 6 -> {
                if (random.nextBoolean()) {
                    desk.engage();
                } else {
                    desk.disconnect();
                }
            }
            default -> desk.step(1 + random.nextInt(6));
        }
    }

    private static void oneCallLookedAt(String what, ModeDesk desk, Random random) {
        switch (random.nextInt(8)) {
            case 0, 1, 2 -> pressOne(what, desk, random.nextInt(10));
            case 3, 4 -> senseOne(desk, random);
            case 5 -> desk.channel(random.nextInt(2), random.nextInt(4) > 0);
            case 6 -> engageOrDisconnect(what, desk, random.nextBoolean());
            default -> Checks.due(what + ": step", desk.step(1 + random.nextInt(6)),
                Integer.bitCount(desk.shown() & 24));
        }
    }

    private static void pressOne(String what, ModeDesk desk, int button) {
        String before = compared(desk);
        int answer = desk.press(button);
        Checks.due(what + ": press(" + button + ")", answer, before.equals(compared(desk)) ? 0 : 1);
    }

    private static String compared(ModeDesk desk) {
        return Checks.modes(desk) + " " + (desk.shown() & (Checks.ON | Checks.ENGAGED | Checks.SECOND_LEADS));
    }

    private static void senseOne(ModeDesk desk, Random random) {
        int what = random.nextInt(7);
        int[] values = what < 2 ? DEVIATIONS : what < 4 ? HEIGHTS : what == 4 ? SPEEDS : new int[] {0, 1, 1};
        desk.sense(what, values[random.nextInt(values.length)]);
    }

    private static void engageOrDisconnect(String what, ModeDesk desk, boolean engage) {
        int before = desk.shown();
        if (engage) {
            int answer = desk.engage();
            boolean isEngaged = (desk.shown() & Checks.ENGAGED) != 0;
            Checks.due(what + ": engage", isEngaged, answer == 1 || (before & Checks.ENGAGED) != 0);
        } else {
            int due = (before & Checks.ENGAGED) != 0 ? 2 : (before & Checks.WARNING) != 0 ? 1 : 0;
            Checks.due(what + ": disconnect", desk.disconnect(), due);
        }
    }

    private static void termsHold(String what, ModeDesk desk) {
        int lateral = desk.mode(0);
        int vertical = desk.mode(1);
        boolean on = (desk.shown() & Checks.ON) != 0;
        Checks.due(what + ": a lateral mode while on", lateral != 0, on);
        Checks.due(what + ": a vertical mode while on", vertical != 0, on);
        Checks.due(what + ": NAV and APPROACH armed", desk.armed(0) && desk.armed(1), false);
        Checks.due(what + ": GLIDE armed alone", desk.armed(2) && !desk.armed(1) && lateral != 4, false);
        Checks.due(what + ": CAPTURE armed", desk.armed(3), vertical >= 1 && vertical <= 3);
        Checks.due(what + ": GLIDE without APPROACH", vertical == 6 && lateral != 4, false);
        if (!on) {
            Checks.due(what + ": off", Checks.modes(desk), "off/off");
            Checks.due(what + ": shown while off", desk.shown() & ~(Checks.WARNING | Checks.SECOND_LEADS), 0);
        }
        boolean around = lateral == 5 || vertical == 7;
        Checks.due(what + ": engaged in AROUND", around && (desk.shown() & Checks.ENGAGED) != 0, false);
        Checks.due(what + ": more would come about", desk.sense(Checks.SPEED, desk.measure(Checks.SPEED)), 0);
    }

    private static void changesFitTogether(String what, ModeDesk desk) {
        int[] last = new int[2];
        int count = Checks.changeCount(desk);
        for (int i = 0; i < count; i++) {
            int place = desk.kept(i, 0);
            int before = desk.kept(i, 1);
            int behind = desk.kept(i, 2);
            Checks.due(what + ": before change " + i, before, last[place]);
            Checks.due(what + ": change " + i + " is one", before == behind, false);
            last[place] = behind;
        }
        Checks.due(what + ": the last lateral one", last[0], desk.mode(0));
        Checks.due(what + ": the last vertical one", last[1], desk.mode(1));
    }
}
