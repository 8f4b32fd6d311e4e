import java.util.function.Consumer;

/** Every call that the document refuses, at every stage of a copying: what it throws, and that it changes nothing. */
public final class RefusalTest {
    private static final Check CHECK = new Check();
    private static final int LOW = Integer.MIN_VALUE;
    private static final int HIGH = Integer.MAX_VALUE;
    private static final int BEHIND = Stages.SECTORS;

    private final int stage;
    private final String view;
    private final String future;

    private RefusalTest(int stage) {
        this.stage = stage;
        this.view = Stages.view(Stages.at(stage));
        this.future = Stages.future(Stages.at(stage));
    }

    public static void main(String[] args) {
        for (int stage = 0; stage < Stages.COUNT; stage++) {
            RefusalTest test = new RefusalTest(stage);
            test.badArguments();
            test.badStates();
        }
        CHECK.end();
    }

    private void badArguments() {
        about("source: n isn't 1 .. 64");
        for (int n : new int[] {LOW, -1, 0, 65, 66, HIGH}) {
            argument("source(" + n + ")", desk -> desk.source(n));
        }
        about("sector: there is no such sector");
        for (int s : new int[] {LOW, -1, BEHIND, BEHIND + 1, 63, 64, HIGH}) {
            argument("sector(" + s + ", 1, 0)", desk -> desk.sector(s, 1, 0));
        }
        about("sector: failures isn't -1 .. 9");
        for (int failures : new int[] {LOW, -3, -2, 10, 11, HIGH}) {
            argument("sector(0, 1, " + failures + ")", desk -> desk.sector(0, 1, failures));
            argument("sector(12, 1, " + failures + ")", desk -> desk.sector(BEHIND, 1, failures));
        }
        about("begin: retries isn't 0 .. 5");
        for (int retries : new int[] {LOW, -2, -1, 6, 7, HIGH}) {
            argument("begin(" + retries + ")", desk -> desk.begin(retries));
        }
        about("run: n isn't 0 .. 300");
        for (int n : new int[] {LOW, -2, -1, 301, 302, HIGH}) {
            argument("run(" + n + ")", desk -> desk.run(n));
        }
        about("stop: keep is below 0");
        for (int keep : new int[] {LOW, -2, -1}) {
            argument("stop(" + keep + ")", desk -> desk.stop(keep));
        }
        about("second: there is no such sector");
        for (int s : new int[] {LOW, -1, BEHIND, BEHIND + 1, 63, 64, HIGH}) {
            argument("second(" + s + ", 1)", desk -> desk.second(s, 1));
        }
        badPokes();
    }

    private void badPokes() {
        about("poke: there is no such slot, place or byte");
        for (int slot : new int[] {LOW, -2, -1, 2, 3, HIGH}) {
            argument("poke(" + slot + ", 0, 9)", desk -> desk.poke(slot, 0, 9));
        }
        for (int place : new int[] {LOW, -2, -1, 140, 141, HIGH}) {
            argument("poke(0, " + place + ", 9)", desk -> desk.poke(0, place, 9));
            argument("poke(1, " + place + ", 9)", desk -> desk.poke(1, place, 9));
        }
        for (int v : new int[] {LOW, -2, -1, 256, 257, HIGH}) {
            argument("poke(0, 0, " + v + ")", desk -> desk.poke(0, 0, v));
            argument("poke(1, 139, " + v + ")", desk -> desk.poke(1, 139, v));
        }
    }

    private void badStates() {
        if (stage != Stages.LAID) {
            about("begin: there is no source, or it is begun already");
            for (int retries = 0; retries <= 5; retries++) {
                int taken = retries;
                state("begin(" + taken + ")", desk -> desk.begin(taken));
            }
        }
        if (!Stages.isStopped(stage)) {
            about("resume: it isn't stopped");
            state("resume()", RescueDesk::resume);
        }
        if (!Stages.goesOn(stage)) {
            copyingIsNotGoingOn();
        }
    }

    private void copyingIsNotGoingOn() {
        about("step: copying isn't going on");
        state("step()", RescueDesk::step);
        about("run: copying isn't going on");
        for (int n : new int[] {0, 1, 300}) {
            state("run(" + n + ")", desk -> desk.run(n));
        }
        about("save: copying isn't going on");
        state("save()", RescueDesk::save);
        about("stop: copying isn't going on");
        for (int keep : new int[] {0, 1, 5, 140, HIGH}) {
            state("stop(" + keep + ")", desk -> desk.stop(keep));
        }
        if (Stages.hasSource(stage)) {
            about("second: copying isn't going on");
            for (int s = 0; s < BEHIND; s++) {
                int sector = s;
                state("second(" + s + ", 1)", desk -> desk.second(sector, 1));
            }
        }
    }

    private void about(String sentence) {
        CHECK.about(Stages.name(stage) + ": " + sentence);
    }

    private void argument(String call, Consumer<RescueDesk> refused) {
        refused(call, refused, "IllegalArgumentException");
    }

    private void state(String call, Consumer<RescueDesk> refused) {
        refused(call, refused, "IllegalStateException");
    }

    private void refused(String call, Consumer<RescueDesk> refused, String thrown) {
        RescueDesk seen = Stages.at(stage);
        CHECK.due(call, Check.thrownBy(() -> refused.accept(seen)), thrown);
        CHECK.due("all that is seen behind " + call, Stages.view(seen), view);
        RescueDesk goingOn = Stages.at(stage);
        Check.thrownBy(() -> refused.accept(goingOn));
        CHECK.due("all that comes behind " + call, Stages.future(goingOn), future);
    }
}
