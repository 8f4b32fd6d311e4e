/** Promises 1 (a new object), 2 (source) and 3 (sector). */
public final class SourceTest {
    private static final Check CHECK = new Check();

    public static void main(String[] args) {
        aNewObjectHasNothing();
        aNewObjectRefusesToCopy();
        sizesOfASource();
        aSourceWipesAll();
        aRefusedSourceChangesNothing();
        sectorsThatThereAre();
        wordsOfSectors();
        failuresOfSectors();
        sectorsWhileCopying();
        CHECK.end();
    }

    private static void aNewObjectHasNothing() {
        RescueDesk desk = new RescueDesk();
        CHECK.due("phase of a new object", desk.phase(), RescueDesk.NONE);
        CHECK.due("state of a new object", desk.state(0), RescueDesk.NONE);
        CHECK.due("count of a new object", desk.count(0), 0);
        CHECK.due("part of a new object", desk.part(0, 1), RescueDesk.NONE);
        CHECK.due("out of a new object", desk.out(0), 0);
        CHECK.due("reads of a new object", desk.reads(0), 0);
        CHECK.due("made of a new object", desk.made(false), 0);
        CHECK.due("failed reads of a new object", desk.made(true), 0);
        slotsAreZero("new object", desk);
    }

    private static void slotsAreZero(String when, RescueDesk desk) {
        for (int slot = 0; slot < 2; slot++) {
            for (int place = 0; place < 140; place++) {
                CHECK.due(when + ": image(" + slot + ", " + place + ")", desk.image(slot, place), 0);
            }
            CHECK.due(when + ": image(" + slot + ", 140)", desk.image(slot, 140), RescueDesk.NONE);
        }
    }

    private static void aNewObjectRefusesToCopy() {
        RescueDesk desk = new RescueDesk();
        CHECK.badArgument("sector without a source", () -> desk.sector(0, 1, 0));
        CHECK.badArgument("second without a source", () -> desk.second(0, 1));
        CHECK.badState("begin without a source", () -> desk.begin(0));
        CHECK.badState("step without a source", desk::step);
        CHECK.badState("run without a source", () -> desk.run(0));
        CHECK.badState("save without a source", desk::save);
        CHECK.badState("stop without a source", () -> desk.stop(0));
        CHECK.badState("resume without a source", desk::resume);
    }

    private static void sizesOfASource() {
        RescueDesk desk = new RescueDesk();
        for (int n : new int[] {0, -1, 65, Integer.MAX_VALUE, Integer.MIN_VALUE}) {
            CHECK.badArgument("source(" + n + ")", () -> desk.source(n));
        }
        CHECK.badState("begin behind refused sources", () -> desk.begin(0));
        for (int n : new int[] {1, 2, 63, 64}) {
            desk.source(n);
            CHECK.due("phase behind source(" + n + ")", desk.phase(), RescueDesk.NONE);
            desk.begin(0);
            CHECK.due("count behind source(" + n + ")", desk.count(0), n);
            CHECK.due("last sector of " + n, desk.state(n - 1), 0);
            CHECK.due("no sector behind " + n, desk.state(n), RescueDesk.NONE);
        }
    }

    private static void aSourceWipesAll() {
        RescueDesk desk = Desks.of(16, 3);
        desk.begin(2);
        desk.run(300);
        desk.save();
        desk.save();
        desk.poke(0, 139, 7);
        desk.source(16);
        CHECK.due("phase behind a new source", desk.phase(), RescueDesk.NONE);
        CHECK.due("made behind a new source", desk.made(false), 0);
        CHECK.due("failed reads behind a new source", desk.made(true), 0);
        for (int s = 0; s < 16; s++) {
            CHECK.due("out behind a new source", desk.out(s), 0);
            CHECK.due("reads behind a new source", desk.reads(s), 0);
        }
        slotsAreZero("behind a new source", desk);
        desk.begin(0);
        CHECK.due("a new source's first save", desk.save(), 1);
        CHECK.due("a new source's reads, none of which fails", desk.run(9), 2);
        CHECK.due("a new source's failed reads", desk.made(true), 0);
        CHECK.due("a new source's words", desk.out(5), 0);
        desk.stop(3);
        desk.source(5);
        CHECK.due("phase of a source behind a stop", desk.phase(), RescueDesk.NONE);
        CHECK.badState("resume of a source behind a stop", desk::resume);
    }

    private static void aRefusedSourceChangesNothing() {
        RescueDesk desk = Desks.of(8);
        desk.begin(0);
        desk.step();
        desk.save();
        CHECK.badArgument("source(0) while copying", () -> desk.source(0));
        CHECK.badArgument("source(65) while copying", () -> desk.source(65));
        CHECK.due("map behind a refused source", Desks.map(desk), "44444444");
        CHECK.due("out behind a refused source", desk.out(7), 107);
        CHECK.due("made behind a refused source", desk.made(false), 1);
        CHECK.due("image behind a refused source", desk.image(1, 0), 1);
    }

    private static void sectorsThatThereAre() {
        RescueDesk desk = new RescueDesk();
        desk.source(64);
        desk.sector(63, 1, 0);
        desk.source(5);
        desk.sector(0, 1, 0);
        desk.sector(4, 1, 0);
        for (int s : new int[] {-1, 5, 63, 64, Integer.MAX_VALUE, Integer.MIN_VALUE}) {
            CHECK.badArgument("sector(" + s + ", 1, 0) of 5", () -> desk.sector(s, 1, 0));
        }
    }

    private static void wordsOfSectors() {
        RescueDesk desk = new RescueDesk();
        desk.source(4);
        desk.sector(0, Integer.MIN_VALUE, 0);
        desk.sector(1, Integer.MAX_VALUE, 0);
        desk.sector(2, 5, 0);
        desk.sector(2, -6, 0);
        CHECK.due("out before the copying", desk.out(2), 0);
        desk.begin(0);
        desk.run(1);
        CHECK.due("the lowest word", desk.out(0), Integer.MIN_VALUE);
        CHECK.due("the highest word", desk.out(1), Integer.MAX_VALUE);
        CHECK.due("a word set twice", desk.out(2), -6);
        CHECK.due("a word never set", desk.out(3), 0);
    }

    private static void failuresOfSectors() {
        RescueDesk desk = new RescueDesk();
        desk.source(1);
        desk.sector(0, 1, 0);
        for (int failures : new int[] {-2, 10, Integer.MAX_VALUE, Integer.MIN_VALUE}) {
            CHECK.badArgument("sector(0, 2, " + failures + ")", () -> desk.sector(0, 2, failures));
        }
        desk.begin(5);
        CHECK.due("refused failures change nothing", desk.run(300), 1);
        CHECK.due("a refused word changes nothing", desk.out(0), 1);
        // A lone sector is read once forward, once to trim it, and once a retry.
        for (int failures = 0; failures <= 9; failures++) {
            desk.source(1);
            desk.sector(0, 1, failures);
            desk.begin(5);
            int reads = Math.min(failures + 1, 7);
            CHECK.due("reads of a sector with failures " + failures, desk.run(300), reads);
            CHECK.due("failed ones with failures " + failures, desk.made(true), Math.min(failures, 7));
            CHECK.due("state with failures " + failures, desk.state(0), failures < 7 ? 4 : 3);
        }
        desk.source(1);
        desk.sector(0, 1, -1);
        desk.begin(5);
        CHECK.due("reads of a sector that always fails", desk.run(300), 7);
        for (int i = 0; i < 5; i++) {
            desk.stop(0);
            desk.resume();
            CHECK.due("further reads of it", desk.run(300), 7);
        }
        CHECK.due("its state", desk.state(0), 3);
        CHECK.due("its failed reads", desk.made(true), 42);
    }

    private static void sectorsWhileCopying() {
        RescueDesk desk = Desks.of(1, 0);
        desk.begin(5);
        desk.run(2);
        CHECK.due("BAD before the sector is set", desk.state(0), 3);
        desk.sector(0, 77, 1);
        CHECK.due("BAD behind it", desk.state(0), 3);
        CHECK.due("it does not touch the target", desk.out(0), 0);
        desk.step();
        CHECK.due("one failure is left", desk.state(0), 3);
        desk.step();
        CHECK.due("no failure is left", desk.state(0), 4);
        CHECK.due("its new word", desk.out(0), 77);
        desk.sector(0, 78, -1);
        CHECK.due("what is rescued stays so", desk.out(0), 77);
        desk.stop(0);
        desk.sector(0, 79, 0);
        desk.resume();
        desk.step();
        CHECK.due("a word set while stopped", desk.out(0), 79);
    }
}
