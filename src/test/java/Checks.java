/** What the project's tests share: they print every answer that is not due and end with exit code 1 then. */
final class Checks {
    static final int HEADING = 0, NAV = 1, APPROACH = 2, CLIMB = 3, LEVEL = 4, HOLD = 5, AROUND = 6,
        SYNC = 7, TRANSFER = 8, DIRECTOR = 9;
    static final int COURSE = 0, PATH = 1, HEIGHT = 2, SELECTED = 3, SPEED = 4, COURSE_IN = 5, PATH_IN = 6;
    static final int ON = 1, ENGAGED = 2, WARNING = 4, LATERAL_FLASH = 8, VERTICAL_FLASH = 16, SECOND_LEADS = 32;

    private static final String[] LATERAL = {"off", "ROLL", "HEADING", "NAV", "APPROACH", "AROUND"};
    private static final String[] VERTICAL =
        {"off", "PITCH", "CLIMB", "LEVEL", "HOLD", "CAPTURE", "GLIDE", "AROUND"};

    private static int wrong = 0;

    private Checks() {
    }

    interface Call {
        void run();
    }

    static void due(String what, Object got, Object want) {
        if (!got.equals(want)) {
            wrong++;
            System.out.println(what + " answered " + got + ", due is " + want);
        }
    }

    static void refused(String what, Call call) {
        String got = "nothing";
        try {
            call.run();
        } catch (RuntimeException e) {
            got = e.getClass().getSimpleName();
        }
        due(what + " throws", got, "IllegalArgumentException");
    }

    /** The active modes and what is armed, such as "HEADING/PITCH A G C". */
    static String modes(ModeDesk desk) {
        return LATERAL[desk.mode(0)] + "/" + VERTICAL[desk.mode(1)]
            + (desk.armed(0) ? " N" : "") + (desk.armed(1) ? " A" : "")
            + (desk.armed(2) ? " G" : "") + (desk.armed(3) ? " C" : "");
    }

    static void dueModes(String what, ModeDesk desk, String want) {
        due(what + ": modes", modes(desk), want);
    }

    /** All changes from the given one on, such as "L0-1 V0-1 V1-5*"; a star is one by itself. */
    static String changesFrom(ModeDesk desk, int first) {
        StringBuilder all = new StringBuilder();
        for (int i = first; desk.kept(i, 0) != ModeDesk.NONE; i++) {
            all.append(all.length() == 0 ? "" : " ").append(desk.kept(i, 0) == 0 ? 'L' : 'V')
                .append(desk.kept(i, 1)).append('-').append(desk.kept(i, 2))
                .append(desk.kept(i, 3) == 1 ? "*" : "");
        }
        return all.toString();
    }

    /** All that the face tells of a desk, but for how many steps its places flash still. */
    static String everything(ModeDesk desk) {
        StringBuilder measures = new StringBuilder();
        for (int what = 0; what <= PATH_IN; what++) {
            measures.append(' ').append(desk.measure(what));
        }
        return modes(desk) + ", shown " + desk.shown() + ", measures" + measures
            + ", kept " + changesFrom(desk, 0);
    }

    static int changeCount(ModeDesk desk) {
        int count = 0;
        while (desk.kept(count, 0) != ModeDesk.NONE) {
            count++;
        }
        return count;
    }

    /** Off, and the selected height so far away that CAPTURE does not come about. */
    static ModeDesk farBelow() {
        ModeDesk desk = new ModeDesk();
        desk.sense(SELECTED, 50000);
        return desk;
    }

    /** On in BASE, far below the selected height. */
    static ModeDesk inBase() {
        ModeDesk desk = farBelow();
        desk.press(DIRECTOR);
        return desk;
    }

    static ModeDesk inNav() {
        ModeDesk desk = inBase();
        desk.sense(COURSE_IN, 1);
        desk.press(NAV);
        return desk;
    }

    /** APPROACH active, GLIDE armed still. */
    static ModeDesk inApproach() {
        ModeDesk desk = inBase();
        desk.sense(COURSE_IN, 1);
        desk.press(APPROACH);
        return desk;
    }

    static ModeDesk inGlide() {
        ModeDesk desk = inApproach();
        desk.sense(PATH_IN, 1);
        return desk;
    }

    static ModeDesk inAround() {
        ModeDesk desk = inBase();
        desk.press(AROUND);
        return desk;
    }

    static void finish(String test) {
        System.out.println(test + ": " + (wrong == 0 ? "all answers are as due" : wrong + " answers are not as due"));
        if (wrong != 0) {
            System.exit(1);
        }
    }
}
