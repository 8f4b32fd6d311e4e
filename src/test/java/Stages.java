/** Desks as they are at each stage of one copying, all that can be seen of them, and what they do from there on. */
final class Stages {
    static final int SECTORS = 12;

    static final int NEW = 0;
    static final int LAID = 1;
    static final int BEGUN = 2;
    static final int BACKWARD = 3;
    static final int TRIMMING = 4;
    static final int SCRAPING = 5;
    static final int RETRYING = 6;
    static final int DONE = 7;
    static final int STOPPED = 8;
    static final int STOPPED_WITHOUT_A_SAVE = 9;
    static final int RESUMED = 10;
    static final int COUNT = 11;

    private static final String[] NAMES = {"new", "laid", "begun", "backward", "trimming", "scraping", "retrying",
        "done", "stopped", "stopped without a save", "resumed"};

    private Stages() {
    }

    static String name(int stage) {
        return NAMES[stage];
    }

    static boolean hasSource(int stage) {
        return stage != NEW;
    }

    static boolean isStopped(int stage) {
        return stage == STOPPED || stage == STOPPED_WITHOUT_A_SAVE;
    }

    static boolean goesOn(int stage) {
        return stage >= BEGUN && !isStopped(stage);
    }

    /** A new desk, brought to a stage: sector 2 always fails, 5 twice, 9 three times. */
    static RescueDesk at(int stage) {
        RescueDesk desk = new RescueDesk();
        if (stage == NEW) {
            return desk;
        }
        desk.source(SECTORS);
        for (int s = 0; s < SECTORS; s++) {
            desk.sector(s, 100 + s, s == 2 ? -1 : s == 5 ? 2 : s == 9 ? 3 : 0);
        }
        if (stage != LAID) {
            desk.begin(4);
        }
        // Reads: one FORWARD, one BACKWARD, six to TRIM, six to SCRAPE, three in the first round.
        switch (stage) {
            case BACKWARD: desk.run(2); break;
            case TRIMMING: desk.run(6); desk.save(); break;
            case SCRAPING: desk.run(11); desk.save(); desk.save(); break;
            case RETRYING: desk.run(18); break;
            case DONE: desk.run(300); break;
            case STOPPED: desk.run(9); desk.save(); desk.run(7); desk.stop(4); break;
            case STOPPED_WITHOUT_A_SAVE: desk.run(16); desk.stop(0); break;
            case RESUMED: desk.run(9); desk.stop(100); desk.resume(); desk.run(1); break;
            default: break;
        }
        return desk;
    }

    /** All answers of the calls that change nothing, for all arguments that there are and the nearest that aren't. */
    static String view(RescueDesk desk) {
        StringBuilder seen = new StringBuilder("phase " + desk.phase());
        seen.append(" made ").append(desk.made(false)).append(' ').append(desk.made(true)).append(" count");
        for (int state = -1; state <= 5; state++) {
            seen.append(' ').append(desk.count(state));
        }
        for (int s = -1; s <= SECTORS; s++) {
            seen.append(" s").append(desk.state(s)).append(' ').append(desk.out(s)).append(' ').append(desk.reads(s));
            for (int what = 0; what < 3; what++) {
                seen.append(what == 0 ? " p" : " ").append(desk.part(s, what));
            }
        }
        for (int slot = 0; slot < 2; slot++) {
            seen.append(" slot");
            for (int place = -1; place <= 140; place++) {
                seen.append(' ').append(desk.image(slot, place));
            }
        }
        return seen.toString();
    }

    /** What comes of a desk: the answers of a copying from here to its end, with saves, a stop and a resume. */
    static String future(RescueDesk desk) {
        StringBuilder told = new StringBuilder("phase " + desk.phase());
        if (desk.phase() == RescueDesk.NONE) {
            told.append(' ').append(Check.thrownBy(() -> desk.begin(3)));
        }
        if (desk.phase() == RescueDesk.NONE) {
            desk.source(SECTORS);
            desk.begin(3);
        }
        if (desk.phase() == 7) {
            told.append(" resume ").append(desk.resume());
        }
        steps(told, desk, 45);
        told.append(" save ").append(desk.save()).append(" stop ").append(desk.stop(5));
        told.append(' ').append(Desks.bytes(desk, 0, 24)).append(" | ").append(Desks.bytes(desk, 1, 24));
        told.append(" resume ").append(desk.resume()).append(' ').append(Desks.map(desk));
        told.append(" save ").append(desk.save()).append(" stop ").append(desk.stop(0));
        // Number 200 is none, so that all is read again, and each word is seen.
        desk.poke(0, 0, 200);
        desk.poke(1, 0, 200);
        told.append(" resume ").append(desk.resume());
        steps(told, desk, 60);
        for (int s = 0; s < SECTORS; s++) {
            told.append(' ').append(desk.out(s)).append(' ').append(desk.reads(s));
        }
        return told.append(' ').append(desk.save()).append(' ').append(Desks.map(desk)).toString();
    }

    private static void steps(StringBuilder told, RescueDesk desk, int most) {
        told.append(" steps");
        int phase = 0;
        for (int i = 0; i < most && phase != 6; i++) {
            phase = desk.step();
            told.append(' ').append(phase);
        }
        told.append(" made ").append(desk.made(false)).append(' ').append(desk.made(true));
    }
}
