/** The boundary cases that promises 1 to 19 name, sentence by sentence; what they refuse is in RefusalTest, too. */
public final class PromiseEdgesTest {
    private static final Check CHECK = new Check();
    private static final int LOW = Integer.MIN_VALUE;
    private static final int HIGH = Integer.MAX_VALUE;
    private static final int NONE = RescueDesk.NONE;

    public static void main(String[] args) {
        promise1();
        promise2Sizes();
        promise2Wipes();
        promise2WipesWhatASmallerSourceHides();
        promise3Sectors();
        promise3Failures();
        promise3AtEachStage();
        promise4Retries();
        promise4Begins();
        promise4NotAgain();
        promise5();
        promise6Steps();
        promise6AsLongAsTheyRead();
        promise7();
        promise8Keep();
        promise8AtEachStage();
        promise9None();
        promise9One();
        promise9Two();
        promise9ASlotWrittenInPart();
        promise9Phase0();
        promise9TheNextSave();
        promise10Edges();
        promise10AtEachStage();
        promise11Edges();
        promise11OnlyIfBad();
        promise12();
        promise13();
        promise14();
        promise15();
        promise16();
        promise17();
        promise18();
        promise19();
        CHECK.end();
    }

    private static void promise1() {
        CHECK.about("1: No source, nothing copied; both slots (each of 140 bytes) are 0");
        RescueDesk desk = new RescueDesk();
        CHECK.due("phase", desk.phase(), NONE);
        CHECK.due("made", desk.made(false) + desk.made(true), 0);
        CHECK.badArgument("no sector 0", () -> desk.sector(0, 1, 0));
        CHECK.badState("no source to begin with", () -> desk.begin(0));
        for (int slot = 0; slot < 2; slot++) {
            for (int place = 0; place < 140; place++) {
                CHECK.due("byte " + place + " of slot " + slot, desk.image(slot, place), 0);
            }
            CHECK.due("no byte 140 of slot " + slot, desk.image(slot, 140), NONE);
        }
        for (int s : new int[] {LOW, -1, 0, 1, 63, 64, HIGH}) {
            CHECK.due("out(" + s + ")", desk.out(s), 0);
            CHECK.due("reads(" + s + ")", desk.reads(s), 0);
            CHECK.due("state(" + s + ")", desk.state(s), NONE);
            CHECK.due("count(" + s + ")", desk.count(s), 0);
            CHECK.due("part(" + s + ", 0)", desk.part(s, 0), NONE);
        }
    }

    private static void promise2Sizes() {
        CHECK.about("2: A source of n sectors. IllegalArgumentException: n isn't 1 .. 64");
        RescueDesk desk = new RescueDesk();
        for (int n = 1; n <= 64; n++) {
            desk.source(n);
            desk.begin(0);
            CHECK.due("sectors of source(" + n + ")", desk.count(0), n);
            CHECK.due("the last of them", desk.state(n - 1), 0);
            CHECK.due("none behind it", desk.state(n), NONE);
        }
        for (int n : new int[] {LOW, LOW + 1, -64, -1, 0, 65, 66, 128, 257, HIGH}) {
            CHECK.badArgument("source(" + n + ")", () -> desk.source(n));
        }
        CHECK.due("the last that was taken", desk.count(0), 64);
    }

    private static void promise2Wipes() {
        CHECK.about("2: copying isn't begun; the target and the slots are 0, no reads, no saves");
        for (int stage = 0; stage < Stages.COUNT; stage++) {
            String when = " of a source when " + Stages.name(stage);
            RescueDesk seen = Stages.at(stage);
            seen.source(Stages.SECTORS);
            CHECK.due("phase" + when, seen.phase(), NONE);
            CHECK.due("all that is seen" + when, Stages.view(seen), Stages.view(newlyLaid()));
            RescueDesk goingOn = Stages.at(stage);
            goingOn.source(Stages.SECTORS);
            CHECK.due("all that comes" + when, Stages.future(goingOn), Stages.future(newlyLaid()));
            RescueDesk saved = Stages.at(stage);
            saved.source(1);
            saved.begin(0);
            CHECK.due("the first save" + when, saved.save(), 1);
        }
    }

    private static RescueDesk newlyLaid() {
        RescueDesk desk = new RescueDesk();
        desk.source(Stages.SECTORS);
        return desk;
    }

    private static void promise2WipesWhatASmallerSourceHides() {
        CHECK.about("2: A source of n sectors; .. the target .. 0, no reads: also of those that a smaller one hid");
        RescueDesk desk = Desks.of(64);
        desk.begin(0);
        desk.run(7);
        desk.sector(63, 163, 1);
        desk.run(1);
        desk.source(1);
        CHECK.due("out(55) of 1", desk.out(55), 0);
        CHECK.due("reads(55) of 1", desk.reads(55), 0);
        desk.sector(0, 9, 0);
        desk.source(64);
        CHECK.due("out(55) of 64 again", desk.out(55), 0);
        CHECK.due("reads(55) of 64 again", desk.reads(55), 0);
        desk.begin(0);
        CHECK.due("its reads", desk.run(300), 8);
        CHECK.due("none has failed", desk.made(true), 0);
        CHECK.due("words that are 0 again", desk.out(0) + desk.out(55) + desk.out(63), 0);
    }

    private static void promise3Sectors() {
        CHECK.about("3: The word of a sector. IllegalArgumentException: there is no such sector");
        for (int n : new int[] {1, 5, 64}) {
            RescueDesk desk = new RescueDesk();
            CHECK.badArgument("sector(0, ..) without a source", () -> desk.sector(0, 1, 0));
            desk.source(n);
            for (int s = 0; s < n; s++) {
                desk.sector(s, 200 + s, 0);
            }
            for (int s : new int[] {LOW, -1, n, n + 1, 65, HIGH}) {
                CHECK.badArgument("sector(" + s + ", ..) of " + n, () -> desk.sector(s, 1, 0));
            }
            desk.begin(0);
            desk.run(300);
            for (int s = 0; s < n; s++) {
                CHECK.due("word " + s + " of " + n, desk.out(s), 200 + s);
            }
        }
        RescueDesk desk = new RescueDesk();
        int[] words = {LOW, -1, 0, 1, 256, HIGH};
        desk.source(words.length);
        for (int s = 0; s < words.length; s++) {
            desk.sector(s, words[s], 0);
        }
        desk.begin(0);
        desk.run(300);
        for (int s = 0; s < words.length; s++) {
            CHECK.due("a word of " + words[s], desk.out(s), words[s]);
        }
    }

    private static void promise3Failures() {
        CHECK.about("3: and its failures. IllegalArgumentException: failures isn't -1 .. 9");
        for (int failures = -1; failures <= 9; failures++) {
            RescueDesk desk = new RescueDesk();
            desk.source(1);
            desk.sector(0, 8, failures);
            desk.begin(5);
            desk.run(300);
            desk.stop(0);
            desk.resume();
            desk.run(300);
            CHECK.due("failed reads with failures " + failures, desk.made(true), failures < 0 ? 14 : failures);
            CHECK.due("word with failures " + failures, desk.out(0), failures < 0 ? 0 : 8);
        }
        RescueDesk desk = Desks.of(1);
        for (int failures : new int[] {LOW, -10, -2, 10, 11, 256, HIGH}) {
            CHECK.badArgument("sector(0, 1, " + failures + ")", () -> desk.sector(0, 1, failures));
        }
        desk.sector(0, 8, -1);
        desk.sector(0, 9, 0);
        desk.begin(0);
        CHECK.due("the last failures count", desk.run(300), 1);
        CHECK.due("the last word counts", desk.out(0), 9);
    }

    private static void promise3AtEachStage() {
        CHECK.about("3: The word of a sector, and its failures: at each stage, and nothing else");
        for (int stage = Stages.LAID; stage < Stages.COUNT; stage++) {
            RescueDesk desk = Stages.at(stage);
            desk.sector(3, 77, 0);
            CHECK.due("all that is seen when " + Stages.name(stage), Stages.view(desk),
                    Stages.view(Stages.at(stage)));
        }
        RescueDesk desk = Stages.at(Stages.RETRYING);
        desk.sector(2, 77, 0);
        desk.run(300);
        CHECK.due("a BAD sector that fails no more", desk.out(2), 77);
        desk = Stages.at(Stages.DONE);
        desk.sector(2, 77, 0);
        CHECK.due("steps when done", desk.run(300), 0);
        CHECK.due("its word when done", desk.out(2), 0);
    }

    private static void promise4Retries() {
        CHECK.about("4: IllegalArgumentException: retries isn't 0 .. 5");
        for (int retries = 0; retries <= 5; retries++) {
            RescueDesk desk = Desks.of(2, 0, 1);
            desk.begin(retries);
            // One read of both, two to trim them.
            CHECK.due("reads with begin(" + retries + ")", desk.run(300), 3 + 2 * retries);
        }
        RescueDesk desk = Desks.of(2, 0, 1);
        for (int retries : new int[] {LOW, -2, -1, 6, 7, 256, HIGH}) {
            CHECK.badArgument("begin(" + retries + ")", () -> desk.begin(retries));
        }
        CHECK.due("it isn't begun", desk.phase(), NONE);
        desk.begin(1);
        CHECK.due("the retries that were taken", desk.run(300), 5);
    }

    private static void promise4Begins() {
        CHECK.about("4: Copying begins: all is UNTRIED, phase 0");
        for (int n : new int[] {1, 64}) {
            RescueDesk desk = Desks.blank(n);
            // A whole slot is for resume alone.
            Desks.pokeImage(desk, 0, 6, n, 4);
            desk.begin(0);
            CHECK.due("phase", desk.phase(), 0);
            CHECK.due("UNTRIED", desk.count(0), n);
            CHECK.due("one run", desk.part(0, 1), n);
            CHECK.due("the slot is not touched", desk.image(0, 0), 6);
            CHECK.due("the first save", desk.save(), 1);
        }
    }

    private static void promise4NotAgain() {
        CHECK.about("4: IllegalStateException: there is no source, or it is begun already");
        for (int stage = 0; stage < Stages.COUNT; stage++) {
            RescueDesk desk = Stages.at(stage);
            CHECK.due("begin(0) when " + Stages.name(stage), Check.thrownBy(() -> desk.begin(0)),
                    stage == Stages.LAID ? "nothing" : "IllegalStateException");
            desk.source(1);
            CHECK.due("begin(0) of a new source", Check.thrownBy(() -> desk.begin(0)), "nothing");
            CHECK.due("begin(0) at once again", Check.thrownBy(() -> desk.begin(0)), "IllegalStateException");
        }
    }

    private static void promise5() {
        CHECK.about("5: the phase in which it read, 6 if it is done. IllegalStateException: copying isn't going on");
        int[] phases = {NONE, NONE, 0, 3, 3, 4, 5, 6, NONE, NONE, 4};
        for (int stage = 0; stage < Stages.COUNT; stage++) {
            RescueDesk desk = Stages.at(stage);
            if (phases[stage] == NONE) {
                CHECK.badState("step when " + Stages.name(stage), desk::step);
            } else {
                int before = desk.made(false);
                CHECK.due("step when " + Stages.name(stage), desk.step(), phases[stage]);
                CHECK.due("phase behind it", desk.phase(), phases[stage]);
                CHECK.due("reads of it", desk.made(false) - before, stage == Stages.DONE ? 0 : 1);
            }
        }
    }

    private static void promise6Steps() {
        CHECK.about("6: Up to n steps. IllegalArgumentException: n isn't 0 .. 300");
        RescueDesk desk = allBad();
        CHECK.due("run(0)", desk.run(0), 0);
        CHECK.due("reads behind run(0)", desk.made(false), 0);
        CHECK.due("run(1)", desk.run(1), 1);
        CHECK.due("reads behind run(1)", desk.made(false), 1);
        for (int n : new int[] {LOW, -300, -1, 301, 302, 556, HIGH}) {
            CHECK.badArgument("run(" + n + ")", () -> desk.run(n));
        }
        CHECK.due("reads behind refused runs", desk.made(false), 1);
        RescueDesk most = allBad();
        CHECK.due("run(300)", most.run(300), 300);
        CHECK.due("reads behind run(300)", most.made(false), 300);
        RescueDesk nearly = allBad();
        CHECK.due("run(299)", nearly.run(299), 299);
    }

    /** Begun, with 8 + 64 + 5 * 64 = 392 reads before it is done. */
    private static RescueDesk allBad() {
        RescueDesk desk = Desks.blank(64);
        for (int s = 0; s < 64; s++) {
            desk.sector(s, 0, -1);
        }
        desk.begin(5);
        return desk;
    }

    private static void promise6AsLongAsTheyRead() {
        CHECK.about("6: as long as they read: how many reads. IllegalStateException: copying isn't going on");
        for (int n = 0; n <= 5; n++) {
            RescueDesk desk = Desks.of(24);
            desk.begin(0);
            CHECK.due("run(" + n + ") with three reads to make", desk.run(n), Math.min(n, 3));
            CHECK.due("phase behind it", desk.phase(), n > 3 ? 6 : 0);
            CHECK.due("run(300) behind it", desk.run(300), 3 - Math.min(n, 3));
            CHECK.due("run(300) when done", desk.run(300), 0);
            CHECK.due("run(0) when done", desk.run(0), 0);
            CHECK.due("all reads", desk.made(false), 3);
        }
        for (int stage = 0; stage < Stages.COUNT; stage++) {
            RescueDesk desk = Stages.at(stage);
            CHECK.due("run(0) when " + Stages.name(stage), Check.thrownBy(() -> desk.run(0)),
                    Stages.goesOn(stage) ? "nothing" : "IllegalStateException");
        }
        RescueDesk rest = allBad();
        rest.run(300);
        CHECK.due("the rest of 392", rest.run(93), 92);
    }

    private static void promise7() {
        CHECK.about("7: Saves the map: the number. IllegalStateException: copying isn't going on");
        for (int stage = 0; stage < Stages.COUNT; stage++) {
            RescueDesk desk = Stages.at(stage);
            if (!Stages.goesOn(stage)) {
                CHECK.badState("save when " + Stages.name(stage), desk::save);
                continue;
            }
            String map = Desks.map(desk);
            int phase = desk.phase();
            int number = desk.save();
            int saves = stage == Stages.TRIMMING || stage == Stages.RESUMED ? 1 : stage == Stages.SCRAPING ? 2 : 0;
            CHECK.due("save when " + Stages.name(stage), number, saves + 1);
            CHECK.due("its number in its slot", desk.image(number % 2, 0), number);
            CHECK.due("how many runs it has", desk.image(number % 2, 1), Desks.runs(map).length / 2);
            CHECK.due("the map behind it", Desks.map(desk), map);
            CHECK.due("the phase behind it", desk.phase(), phase);
            desk.stop(0);
            CHECK.due("its slot is the newest", desk.resume(), number % 2);
            CHECK.due("the map that is found again", Desks.map(desk), map);
        }
    }

    private static void promise8Keep() {
        CHECK.about("8: the first bytes, as many as keep (all, if it has fewer), are written: that save's number; with"
                + " keep 0 it is no save, and this is 0. IllegalArgumentException: keep is below 0");
        // 1 + 3*2 + 2*3 + 4*4 + 1*5 + 3*6 + 9*7 + 4*8 = 147
        int[] image = {1, 3, 2, 4, 1, 3, 9, 4, 147};
        for (int keep : new int[] {0, 1, 2, 3, 4, 5, 6, 7, 8, 9, 10, 139, 140, 141, 255, 256, HIGH}) {
            RescueDesk desk = Stages.at(Stages.DONE);
            for (int place = 0; place < 140; place++) {
                desk.poke(1, place, 222);
            }
            CHECK.due("stop(" + keep + ")", desk.stop(keep), keep == 0 ? 0 : 1);
            CHECK.due("phase behind it", desk.phase(), 7);
            for (int place = 0; place < 140; place++) {
                boolean written = place < keep && place < image.length;
                CHECK.due("byte " + place + " behind stop(" + keep + ")", desk.image(1, place),
                        written ? image[place] : 222);
            }
            CHECK.due("resume behind stop(" + keep + ")", desk.resume(), keep >= image.length ? 1 : NONE);
            CHECK.due("the next save", desk.save(), keep >= image.length ? 2 : 1);
        }
        RescueDesk desk = Stages.at(Stages.DONE);
        for (int keep : new int[] {-1, -2, -140, LOW}) {
            CHECK.badArgument("stop(" + keep + ")", () -> desk.stop(keep));
        }
        CHECK.due("phase behind refused stops", desk.phase(), 6);
    }

    private static void promise8AtEachStage() {
        CHECK.about("8: Copying is stopped. IllegalStateException: copying isn't going on");
        for (int stage = 0; stage < Stages.COUNT; stage++) {
            RescueDesk desk = Stages.at(stage);
            CHECK.due("stop(0) when " + Stages.name(stage), Check.thrownBy(() -> desk.stop(0)),
                    Stages.goesOn(stage) ? "nothing" : "IllegalStateException");
            CHECK.due("phase behind it", desk.phase(), stage < Stages.BEGUN ? NONE : 7);
        }
        RescueDesk desk = Desks.blank(1);
        desk.begin(0);
        desk.save();
        CHECK.due("with keep 0 behind a save", desk.stop(0), 0);
        CHECK.due("no slot is written", Desks.bytes(desk, 0, 5) + " " + Desks.bytes(desk, 1, 5),
                "0 0 0 0 0 1 1 1 0 6");
    }

    private static RescueDesk stoppedWith(int number0, int number1) {
        RescueDesk desk = Desks.blank(3);
        desk.begin(0);
        desk.stop(0);
        Desks.pokeImage(desk, 0, number0, 3, 2);
        Desks.pokeImage(desk, 1, number1, 3, 3);
        return desk;
    }

    private static void promise9None() {
        CHECK.about("9: all is UNTRIED if none is. The slot, NONE if none. (The next save has the number .. 1.)");
        RescueDesk desk = Stages.at(Stages.STOPPED_WITHOUT_A_SAVE);
        CHECK.due("with slots that were never written", desk.resume(), NONE);
        CHECK.due("the map", Desks.map(desk), "0".repeat(Stages.SECTORS));
        CHECK.due("the next save", desk.save(), 1);
        desk = stoppedWith(200, 255);
        CHECK.due("with two that are not whole", desk.resume(), NONE);
        CHECK.due("the map", Desks.map(desk), "000");
        CHECK.due("the next save", desk.save(), 1);
        desk = Desks.blank(3);
        desk.begin(0);
        desk.stop(4);
        CHECK.due("with a first save of which the sum is missing", desk.resume(), NONE);
        CHECK.due("the next save has its number again", desk.save(), 1);
    }

    private static void promise9One() {
        CHECK.about("9: with the map of the slot that is whole");
        for (int slot = 0; slot < 2; slot++) {
            for (int other : new int[] {0, 5, 7, 199}) {
                RescueDesk desk = stoppedWith(slot == 0 ? 6 : other, slot == 1 ? 6 : other);
                // The sum of the other one: so it has a newer number, or not, but isn't whole.
                desk.poke(1 - slot, 4, desk.image(1 - slot, 4) + 1);
                CHECK.due("slot " + slot + " beside a spoilt " + other, desk.resume(), slot);
                CHECK.due("its map", Desks.map(desk), slot == 0 ? "222" : "333");
                CHECK.due("the next save", desk.save(), 7);
            }
        }
    }

    private static void promise9Two() {
        CHECK.about("9: of two, that whose number is 1 more, modulo 200, than the other one's (otherwise that of"
                + " slot 0)");
        for (int number0 = 0; number0 < 200; number0 += number0 < 3 || number0 > 195 ? 1 : 39) {
            for (int number1 = 0; number1 < 200; number1++) {
                RescueDesk desk = stoppedWith(number0, number1);
                int newer = number0 == 199 && number1 == 0 || number1 - number0 == 1 ? 1 : 0;
                String numbers = number0 + " and " + number1;
                CHECK.due("of " + numbers, desk.resume(), newer);
                CHECK.due("the map of " + numbers, desk.state(2), newer == 0 ? 2 : 3);
                int number = newer == 0 ? number0 : number1;
                CHECK.due("the save behind " + numbers, desk.save(), number == 199 ? 0 : number + 1);
            }
        }
    }

    private static void promise9ASlotWrittenInPart() {
        CHECK.about("9: with the map of the slot that is whole: behind a stop in the middle of a save");
        for (int keep = 1; keep <= 8; keep++) {
            RescueDesk desk = Desks.withMap("3344", 0);
            desk.save();
            desk.second(0, 1);
            desk.save();
            desk.second(1, 1);
            // Number 13 goes over number 11: 13, 1, 4, 4, 13 + 1*2 + 4*3 + 4*4 = 43.
            CHECK.due("the number of the last save", desk.stop(keep), 13);
            CHECK.due("the slot behind " + keep + " bytes", desk.resume(), keep < 5 ? 0 : 1);
            CHECK.due("the map behind " + keep + " bytes", Desks.map(desk), keep < 5 ? "4344" : "4444");
            CHECK.due("the next save", desk.save(), keep < 5 ? 13 : 14);
        }
        RescueDesk desk = stoppedWith(6, 7);
        desk.resume();
        desk.poke(0, 0, 8);
        desk.poke(0, 4, (8 + 2 + 9 + 8) % 251);
        CHECK.due("one byte over the same byte", desk.stop(1), 8);
        CHECK.due("what was there is whole still", desk.resume(), 0);
        CHECK.due("its map", Desks.map(desk), "222");
    }

    private static void promise9Phase0() {
        CHECK.about("9: Copying goes on behind a stop, in phase 0. IllegalStateException: it isn't stopped");
        for (int stage = 0; stage < Stages.COUNT; stage++) {
            RescueDesk desk = Stages.at(stage);
            CHECK.due("resume when " + Stages.name(stage), Check.thrownBy(desk::resume),
                    Stages.isStopped(stage) ? "nothing" : "IllegalStateException");
            if (Stages.goesOn(stage)) {
                int made = desk.made(false);
                desk.stop(140);
                desk.resume();
                CHECK.due("made is as it was", desk.made(false), made);
            }
            if (stage >= Stages.BEGUN) {
                CHECK.due("phase behind resume", desk.phase(), 0);
                CHECK.badState("resume again", desk::resume);
            }
        }
    }

    private static void promise9TheNextSave() {
        CHECK.about("9: (The next save has the number behind that of the image, or 1.)");
        for (int number : new int[] {0, 1, 2, 197, 198, 199}) {
            RescueDesk desk = Desks.blank(3);
            desk.begin(0);
            for (int i = 0; i < 5; i++) {
                desk.save();
            }
            desk.stop(0);
            desk.poke(1, 0, 200);
            Desks.pokeImage(desk, 0, number, 3, 2);
            CHECK.due("slot 0", desk.resume(), 0);
            CHECK.due("the stop's number behind " + number, desk.stop(1), number == 199 ? 0 : number + 1);
        }
    }

    private static void promise10Edges() {
        CHECK.about("10: A byte of a slot becomes that. IllegalArgumentException: there is no such slot, place or"
                + " byte");
        RescueDesk desk = new RescueDesk();
        int[][] taken = {{0, 0, 255}, {0, 139, 254}, {1, 0, 1}, {1, 139, 128}, {0, 0, 0}, {1, 70, 255}};
        for (int[] row : taken) {
            desk.poke(row[0], row[1], row[2]);
            CHECK.due("image(" + row[0] + ", " + row[1] + ")", desk.image(row[0], row[1]), row[2]);
        }
        CHECK.due("its neighbours", desk.image(1, 69) + desk.image(1, 71) + desk.image(0, 70), 0);
        for (int v = 0; v <= 255; v++) {
            desk.poke(0, 5, v);
        }
        CHECK.due("the last of 256 bytes", desk.image(0, 5), 255);
        for (int slot : new int[] {LOW, -1, 2, HIGH}) {
            CHECK.badArgument("poke(" + slot + ", 0, 0)", () -> desk.poke(slot, 0, 0));
        }
        for (int place : new int[] {LOW, -1, 140, 280, HIGH}) {
            CHECK.badArgument("poke(0, " + place + ", 0)", () -> desk.poke(0, place, 0));
            CHECK.badArgument("poke(1, " + place + ", 0)", () -> desk.poke(1, place, 0));
        }
        for (int v : new int[] {LOW, -1, 256, HIGH}) {
            CHECK.badArgument("poke(1, 139, " + v + ")", () -> desk.poke(1, 139, v));
        }
        CHECK.due("the bytes behind them", desk.image(1, 139) * 1000 + desk.image(0, 139), 128254);
    }

    private static void promise10AtEachStage() {
        CHECK.about("10: A byte of a slot becomes that: at each stage, and nothing else");
        for (int stage = 0; stage < Stages.COUNT; stage++) {
            RescueDesk desk = Stages.at(stage);
            desk.poke(1, 139, 9);
            CHECK.due("all that is seen when " + Stages.name(stage), Stages.view(desk),
                    Stages.view(Stages.at(stage)).replaceFirst("0 -1$", "9 -1"));
        }
        RescueDesk desk = Desks.blank(3);
        desk.begin(0);
        Desks.pokeImage(desk, 0, 150, 3, 4);
        CHECK.due("an image poked while copying does not change the number", desk.save(), 1);
        CHECK.due("nor the map", Desks.map(desk), "000");
    }

    private static void promise11Edges() {
        CHECK.about("11: IllegalArgumentException: there is no such sector. IllegalStateException: copying isn't going"
                + " on");
        for (int n : new int[] {1, 5, 64}) {
            RescueDesk desk = Desks.blankMap("3".repeat(n), 0);
            for (int s : new int[] {LOW, -1, n, n + 1, 65, HIGH}) {
                CHECK.badArgument("second(" + s + ", 1) of " + n, () -> desk.second(s, 1));
            }
            CHECK.due("second of the last of " + n, desk.second(n - 1, LOW), true);
            CHECK.due("its word", desk.out(n - 1), LOW);
            CHECK.due("second of the first of " + n, desk.second(0, HIGH), n > 1);
            CHECK.due("its word", desk.out(0), n > 1 ? HIGH : LOW);
            CHECK.due("RESCUED of " + n, desk.count(4), Math.min(n, 2));
        }
        for (int stage = 0; stage < Stages.COUNT; stage++) {
            RescueDesk desk = Stages.at(stage);
            String thrown = !Stages.hasSource(stage) ? "IllegalArgumentException"
                    : Stages.goesOn(stage) ? "nothing" : "IllegalStateException";
            CHECK.due("second(2, 5) when " + Stages.name(stage), Check.thrownBy(() -> desk.second(2, 5)), thrown);
        }
    }

    private static void promise11OnlyIfBad() {
        CHECK.about("11: if it is BAD, it is RESCUED now with it; whether it was");
        RescueDesk desk = Desks.withMap("01234", 0);
        desk.second(3, 7);
        for (int s = 0; s < 5; s++) {
            CHECK.due("second of a sector in state " + desk.state(s), desk.second(s, 9), false);
            CHECK.due("its word", desk.out(s), s == 3 ? 7 : 0);
        }
        CHECK.due("the map", Desks.map(desk), "01244");
        CHECK.due("no read is made", desk.made(false) + desk.reads(3), 0);
        RescueDesk done = Stages.at(Stages.DONE);
        CHECK.due("second when done", done.second(2, 0), true);
        CHECK.due("second when done, again", done.second(2, 1), false);
        CHECK.due("its word", done.out(2), 0);
        CHECK.due("the phase", done.phase(), 6);
    }

    private static void promise12() {
        CHECK.about("12: NONE if there is none, or copying isn't going on");
        for (int n : new int[] {1, 5, 64}) {
            RescueDesk desk = Desks.blankMap("4" + "2".repeat(n - 1), 0);
            CHECK.due("state(0) of " + n, desk.state(0), 4);
            CHECK.due("state of the last of " + n, desk.state(n - 1), n == 1 ? 4 : 2);
            for (int s : new int[] {LOW, -1, n, n + 1, 64, 65, HIGH}) {
                CHECK.due("state(" + s + ") of " + n, desk.state(s), NONE);
            }
        }
        int[] states = {NONE, NONE, 0, 1, 3, 3, 3, 3, NONE, NONE, 3};
        for (int stage = 0; stage < Stages.COUNT; stage++) {
            CHECK.due("state(2) when " + Stages.name(stage), Stages.at(stage).state(2), states[stage]);
        }
    }

    private static void promise13() {
        CHECK.about("13: 0 if there is none such, or copying isn't going on");
        RescueDesk desk = Desks.withMap("012344", 0);
        for (int state = 0; state <= 4; state++) {
            CHECK.due("count(" + state + ")", desk.count(state), state == 4 ? 2 : 1);
        }
        for (int state : new int[] {LOW, -2, -1, 5, 6, 7, HIGH}) {
            CHECK.due("count(" + state + ")", desk.count(state), 0);
        }
        RescueDesk all = Desks.blankMap("3".repeat(64), 0);
        CHECK.due("all of 64", all.count(3), 64);
        CHECK.due("none of 64", all.count(4), 0);
        for (int stage = 0; stage < Stages.COUNT; stage++) {
            RescueDesk counted = Stages.at(stage);
            int sum = 0;
            for (int state = 0; state <= 4; state++) {
                sum += counted.count(state);
            }
            CHECK.due("all sectors when " + Stages.name(stage), sum, Stages.goesOn(stage) ? Stages.SECTORS : 0);
            CHECK.due("count(NONE) when " + Stages.name(stage), counted.count(NONE), 0);
        }
    }

    private static void promise14() {
        CHECK.about("14: what 0 its first sector, 1 its length, 2 its state; NONE if there is none, or copying isn't"
                + " going on");
        RescueDesk desk = Desks.withMap("0334", 0);
        int[][] runs = {{0, 1, 0}, {1, 2, 3}, {3, 1, 4}};
        for (int i = 0; i < 3; i++) {
            for (int what = 0; what < 3; what++) {
                CHECK.due("part(" + i + ", " + what + ")", desk.part(i, what), runs[i][what]);
            }
            for (int what : new int[] {LOW, -1, 3, 4, HIGH}) {
                CHECK.due("part(" + i + ", " + what + ")", desk.part(i, what), NONE);
            }
        }
        for (int i : new int[] {LOW, -1, 3, 4, 64, HIGH}) {
            for (int what = -1; what <= 3; what++) {
                CHECK.due("part(" + i + ", " + what + ")", desk.part(i, what), NONE);
            }
        }
        RescueDesk one = Desks.blankMap("4".repeat(64), 0);
        CHECK.due("one run of 64", one.part(0, 1), 64);
        CHECK.due("no run behind it", one.part(1, 1), NONE);
        RescueDesk most = Desks.blankMap("34".repeat(32), 0);
        CHECK.due("the last of 64 runs", most.part(63, 0) * 100 + most.part(63, 1) * 10 + most.part(63, 2), 6314);
        CHECK.due("no run behind them", most.part(64, 0), NONE);
        for (int stage = 0; stage < Stages.COUNT; stage++) {
            CHECK.due("part(0, 0) when " + Stages.name(stage), Stages.at(stage).part(0, 0),
                    Stages.goesOn(stage) ? 0 : NONE);
        }
    }

    private static void promise15() {
        CHECK.about("15: The present phase; 7 if it is stopped, NONE if it isn't begun");
        int[] phases = {NONE, NONE, 0, 1, 3, 4, 5, 6, 7, 7, 4};
        for (int stage = 0; stage < Stages.COUNT; stage++) {
            RescueDesk desk = Stages.at(stage);
            CHECK.due("phase when " + Stages.name(stage), desk.phase(), phases[stage]);
            CHECK.due("phase asked again", desk.phase(), phases[stage]);
            desk.source(2);
            CHECK.due("phase behind a new source", desk.phase(), NONE);
        }
    }

    private static void promise16() {
        CHECK.about("16: A word of the target; 0 if there is no such sector");
        RescueDesk desk = Desks.of(9);
        desk.begin(0);
        desk.run(300);
        CHECK.due("out(0)", desk.out(0), 100);
        CHECK.due("out(8)", desk.out(8), 108);
        for (int s : new int[] {LOW, -1, 9, 10, 63, 64, HIGH}) {
            CHECK.due("out(" + s + ") of 9", desk.out(s), 0);
        }
        RescueDesk most = Desks.of(64);
        most.begin(0);
        most.run(300);
        CHECK.due("out(63) of 64", most.out(63), 163);
        CHECK.due("out(64) of 64", most.out(64), 0);
        int[] words = {0, 0, 0, 0, 101, 101, 101, 101, 101, 101, 101};
        for (int stage = 0; stage < Stages.COUNT; stage++) {
            CHECK.due("out(1) when " + Stages.name(stage), Stages.at(stage).out(1), words[stage]);
        }
    }

    private static void promise17() {
        CHECK.about("17: How many reads a sector had; 0 if there is none such");
        RescueDesk desk = Desks.of(9);
        desk.begin(0);
        desk.run(300);
        CHECK.due("reads(0)", desk.reads(0), 1);
        CHECK.due("reads(8)", desk.reads(8), 1);
        for (int s : new int[] {LOW, -1, 9, 10, 63, 64, HIGH}) {
            CHECK.due("reads(" + s + ") of 9", desk.reads(s), 0);
        }
        RescueDesk most = allBad();
        most.run(300);
        most.run(300);
        CHECK.due("reads(63) of 64", most.reads(63), 6);
        CHECK.due("reads(56) of 64", most.reads(56), 7);
        CHECK.due("reads(64) of 64", most.reads(64), 0);
        int[] reads = {0, 0, 0, 1, 2, 2, 3, 6, 3, 3, 2};
        for (int stage = 0; stage < Stages.COUNT; stage++) {
            CHECK.due("reads(2) when " + Stages.name(stage), Stages.at(stage).reads(2), reads[stage]);
        }
    }

    private static void promise18() {
        CHECK.about("18: How many reads of stretches were made (failed false), or have failed (true), since the source");
        int[][] made = {{0, 0}, {0, 0}, {0, 0}, {2, 2}, {6, 3}, {11, 5}, {18, 8}, {22, 11}, {16, 7}, {16, 7}, {10, 4}};
        for (int stage = 0; stage < Stages.COUNT; stage++) {
            RescueDesk desk = Stages.at(stage);
            CHECK.due("made(false) when " + Stages.name(stage), desk.made(false), made[stage][0]);
            CHECK.due("made(true) when " + Stages.name(stage), desk.made(true), made[stage][1]);
            desk.source(1);
            CHECK.due("made behind a new source", desk.made(false) + desk.made(true), 0);
        }
    }

    private static void promise19() {
        CHECK.about("19: A byte of a slot; NONE if there is none");
        RescueDesk desk = Stages.at(Stages.SCRAPING);
        CHECK.due("image(0, 0)", desk.image(0, 0), 2);
        CHECK.due("image(1, 0)", desk.image(1, 0), 1);
        desk.poke(0, 139, 8);
        desk.poke(1, 139, 9);
        CHECK.due("image(0, 139)", desk.image(0, 139), 8);
        CHECK.due("image(1, 139)", desk.image(1, 139), 9);
        for (int slot : new int[] {LOW, -1, 2, 3, HIGH}) {
            CHECK.due("image(" + slot + ", 0)", desk.image(slot, 0), NONE);
            CHECK.due("image(" + slot + ", 140)", desk.image(slot, 140), NONE);
        }
        for (int place : new int[] {LOW, -1, 140, 141, 280, HIGH}) {
            CHECK.due("image(0, " + place + ")", desk.image(0, place), NONE);
            CHECK.due("image(1, " + place + ")", desk.image(1, place), NONE);
        }
    }
}
