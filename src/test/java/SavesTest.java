/** Promises 7 (save), 8 (stop), 9 (resume), 10 (poke) and 19 (image). */
public final class SavesTest {
    private static final Check CHECK = new Check();

    public static void main(String[] args) {
        savesOnlyWhileCopying();
        imagesOfAMap();
        theLongestImage();
        slotsByTurns();
        numbersAndSums();
        whatIsBehindAnImageStays();
        stopsOnlyWhileCopying();
        stopsWithoutASave();
        stopsInTheMiddleOfASave();
        stopsBehindAWholeSave();
        resumesOnlyBehindAStop();
        resumesWithoutAWholeSlot();
        resumesWithTheOnlyWholeSlot();
        resumesWithTheNewerOfTwo();
        resumesInPhase0();
        resumeKeepsWhatWasRead();
        slotsThatAreNotWhole();
        wholeSlotsAtTheEdges();
        pokes();
        imagesOfNoPlace();
        CHECK.end();
    }

    private static void savesOnlyWhileCopying() {
        RescueDesk desk = Desks.of(8);
        CHECK.badState("save before begin", desk::save);
        desk.begin(0);
        desk.run(300);
        CHECK.due("save when done", desk.save(), 1);
        desk.stop(0);
        CHECK.badState("save when stopped", desk::save);
        CHECK.due("a refused save writes nothing", Desks.bytes(desk, 0, 5), "0 0 0 0 0");
    }

    private static void imagesOfAMap() {
        RescueDesk desk = Desks.of(24, 0, 16);
        desk.begin(0);
        desk.save();
        CHECK.due("all UNTRIED", Desks.bytes(desk, 1, 6), "1 1 24 0 75 0");
        desk.run(2);
        desk.save();
        // 2 + 3*2 + 8*3 + 1*4 + 8*5 + 0 + 8*7 + 1*8 = 140
        CHECK.due("three runs", Desks.bytes(desk, 0, 10), "2 3 8 1 8 0 8 1 140 0");
        desk.run(300);
        desk.save();
        // 3 + 4*2 + 1*3 + 3*4 + 15*5 + 4*6 + 1*7 + 3*8 + 7*9 + 4*10 = 259
        CHECK.due("the sum is modulo 251", Desks.bytes(desk, 1, 11), "3 4 1 3 15 4 1 3 7 4 8");
    }

    private static void theLongestImage() {
        RescueDesk desk = Desks.withMap("34".repeat(32), 0);
        desk.save();
        CHECK.due("64 runs", desk.image(1, 1), 64);
        CHECK.due("the last run's length", desk.image(1, 128), 1);
        CHECK.due("the last run's state", desk.image(1, 129), 4);
        int sum = 11 + 2 * 64;
        for (int i = 0; i < 64; i++) {
            sum += (3 + 2 * i) + (i % 2 == 0 ? 3 : 4) * (4 + 2 * i);
        }
        CHECK.due("the sum", desk.image(1, 130), sum % 251);
        CHECK.due("behind the sum", desk.image(1, 131), 0);
        desk.stop(0);
        desk.poke(0, 0, 200);
        CHECK.due("it is whole", desk.resume(), 1);
        CHECK.due("its map", Desks.map(desk), "34".repeat(32));
    }

    private static void slotsByTurns() {
        RescueDesk desk = Desks.of(1);
        desk.begin(0);
        for (int k = 1; k <= 6; k++) {
            CHECK.due("save " + k, desk.save(), k);
            CHECK.due("its slot's number", desk.image(k % 2, 0), k);
            CHECK.due("the other slot's number", desk.image(1 - k % 2, 0), k - 1);
        }
    }

    private static void numbersAndSums() {
        RescueDesk desk = Desks.of(64);
        desk.begin(0);
        for (int k = 1; k <= 205; k++) {
            CHECK.due("save " + k, desk.save(), k % 200);
            if (k >= 55 && k < 60 || k >= 195) {
                CHECK.due("number of " + k, desk.image(k % 2, 0), k % 200);
                // The number, 1 run times 2, the length 64 times 3.
                CHECK.due("sum of " + k, desk.image(k % 2, 4), (k % 200 + 194) % 251);
            }
        }
    }

    private static void whatIsBehindAnImageStays() {
        RescueDesk desk = Desks.of(4);
        desk.begin(0);
        for (int place = 0; place < 140; place++) {
            desk.poke(1, place, 99);
        }
        desk.save();
        CHECK.due("the image", Desks.bytes(desk, 1, 6), "1 1 4 0 15 99");
        CHECK.due("the slot's last byte", desk.image(1, 139), 99);
        CHECK.due("the other slot", Desks.bytes(desk, 0, 3), "0 0 0");
    }

    private static void stopsOnlyWhileCopying() {
        RescueDesk desk = Desks.of(4);
        CHECK.badState("stop before begin", () -> desk.stop(0));
        CHECK.badArgument("stop(-1) before begin", () -> desk.stop(-1));
        desk.begin(0);
        CHECK.badArgument("stop(-1)", () -> desk.stop(-1));
        CHECK.badArgument("stop of the lowest", () -> desk.stop(Integer.MIN_VALUE));
        CHECK.due("phase behind a refused stop", desk.phase(), 0);
        desk.stop(1);
        CHECK.due("phase when stopped", desk.phase(), 7);
        CHECK.badState("stop twice", () -> desk.stop(1));
        CHECK.badArgument("stop(-1) when stopped", () -> desk.stop(-1));
    }

    private static void stopsWithoutASave() {
        RescueDesk desk = Desks.of(4);
        desk.begin(0);
        desk.save();
        CHECK.due("stop(0)", desk.stop(0), 0);
        CHECK.due("slot 0", Desks.bytes(desk, 0, 5), "0 0 0 0 0");
        CHECK.due("slot 1", Desks.bytes(desk, 1, 5), "1 1 4 0 15");
    }

    private static void stopsInTheMiddleOfASave() {
        for (int keep = 1; keep <= 6; keep++) {
            RescueDesk desk = Desks.of(4);
            for (int place = 0; place < 6; place++) {
                desk.poke(0, place, 90 + place);
            }
            desk.begin(0);
            desk.save();
            desk.step();
            CHECK.due("stop(" + keep + ")", desk.stop(keep), 2);
            // 2 + 1*2 + 4*3 + 4*4 = 32
            int[] image = {2, 1, 4, 4, 32};
            for (int place = 0; place < 6; place++) {
                boolean written = place < keep && place < 5;
                CHECK.due("byte " + place + " behind stop(" + keep + ")", desk.image(0, place),
                        written ? image[place] : 90 + place);
            }
            boolean whole = keep >= 5;
            CHECK.due("resume behind stop(" + keep + ")", desk.resume(), whole ? 0 : 1);
            CHECK.due("map behind stop(" + keep + ")", Desks.map(desk), whole ? "4444" : "0000");
            CHECK.due("save behind stop(" + keep + ")", desk.save(), whole ? 3 : 2);
        }
    }

    private static void stopsBehindAWholeSave() {
        RescueDesk desk = Desks.of(4);
        desk.begin(0);
        CHECK.due("stop of the highest", desk.stop(Integer.MAX_VALUE), 1);
        CHECK.due("the whole image", Desks.bytes(desk, 1, 6), "1 1 4 0 15 0");
        desk.resume();
        for (int k = 2; k <= 199; k++) {
            desk.save();
        }
        CHECK.due("the number behind 199", desk.stop(140), 0);
        CHECK.due("it is in slot 0", Desks.bytes(desk, 0, 5), "0 1 4 0 14");
        CHECK.due("it is newer than 199", desk.resume(), 0);
        CHECK.due("the next save", desk.save(), 1);
    }

    private static void resumesOnlyBehindAStop() {
        RescueDesk desk = Desks.of(4);
        CHECK.badState("resume before begin", desk::resume);
        desk.begin(0);
        CHECK.badState("resume while copying", desk::resume);
        desk.run(300);
        CHECK.badState("resume when done", desk::resume);
        desk.stop(0);
        desk.resume();
        CHECK.badState("resume twice", desk::resume);
        CHECK.due("phase behind resume", desk.phase(), 0);
    }

    private static void resumesWithoutAWholeSlot() {
        RescueDesk desk = Desks.of(9);
        desk.begin(0);
        desk.run(300);
        desk.save();
        desk.save();
        desk.poke(0, 4, 1);
        desk.poke(1, 4, 1);
        desk.stop(0);
        CHECK.due("no whole slot", desk.resume(), RescueDesk.NONE);
        CHECK.due("all is UNTRIED", Desks.map(desk), "000000000");
        CHECK.due("the next save", desk.save(), 1);
    }

    private static void resumesWithTheOnlyWholeSlot() {
        for (int slot = 0; slot < 2; slot++) {
            RescueDesk desk = Desks.of(5);
            desk.begin(0);
            desk.stop(0);
            Desks.pokeImage(desk, slot, 150, 2, 3, 3, 1);
            CHECK.due("only slot " + slot, desk.resume(), slot);
            CHECK.due("its map", Desks.map(desk), "33111");
            CHECK.due("the next save", desk.save(), 151);
            CHECK.due("its slot", desk.image(1, 0), 151);
        }
    }

    private static void resumesWithTheNewerOfTwo() {
        int[][] numbersAndSlot = {
            {2, 1, 0}, {2, 3, 1}, {198, 199, 1}, {0, 199, 0}, {0, 1, 1},
            {3, 4, 1}, {4, 3, 0}, {199, 0, 1}, {199, 198, 0},
            {7, 7, 0}, {2, 4, 0}, {4, 2, 0}, {5, 100, 0}, {100, 5, 0}, {0, 198, 0}, {198, 0, 0},
        };
        for (int[] row : numbersAndSlot) {
            RescueDesk desk = Desks.of(5);
            desk.begin(0);
            desk.stop(0);
            Desks.pokeImage(desk, 0, row[0], 5, 2);
            Desks.pokeImage(desk, 1, row[1], 5, 3);
            String numbers = row[0] + " and " + row[1];
            CHECK.due("the newer of " + numbers, desk.resume(), row[2]);
            CHECK.due("its map", Desks.map(desk), row[2] == 0 ? "22222" : "33333");
            CHECK.due("save behind " + numbers, desk.save(), (row[row[2]] + 1) % 200);
        }
    }

    private static void resumesInPhase0() {
        // Stopped in phase 5, in round 1; the map has something for each phase.
        RescueDesk desk = Desks.of(12, 1, 5);
        desk.begin(2);
        desk.run(300);
        CHECK.due("phase before the stop", desk.phase(), 6);
        desk.stop(0);
        Desks.pokeImage(desk, 0, 8, 1, 0, 1, 1, 1, 4, 1, 2, 1, 0, 1, 3, 6, 0);
        desk.resume();
        CHECK.due("phase behind it", desk.phase(), 0);
        CHECK.due("the map", Desks.map(desk), "014203000000");
        CHECK.due("it goes through all phases again, with the retries of begin", Desks.steps(desk, 12, 10),
                "0:0 0:4 0:6-11 3:1 4:3 5:1 5:5 5:5 5:1 6");
        desk.stop(0);
        Desks.pokeImage(desk, 0, 8, 12, 0);
        desk.resume();
        CHECK.due("the position and the leap are the first again", Desks.steps(desk, 12, 2), "0:0-1 1:8-11");
    }

    private static void resumeKeepsWhatWasRead() {
        RescueDesk desk = Desks.of(8);
        desk.begin(0);
        desk.step();
        desk.stop(0);
        CHECK.due("out when stopped", desk.out(3), 103);
        CHECK.due("reads when stopped", desk.reads(3), 1);
        CHECK.due("made when stopped", desk.made(false), 1);
        desk.resume();
        CHECK.due("out behind resume", desk.out(3), 103);
        CHECK.due("reads behind resume", desk.reads(3), 1);
        CHECK.due("made behind resume", desk.made(false), 1);
        desk.step();
        CHECK.due("read once more", desk.reads(3), 2);
    }

    private static int resumed(int sectors, int number, int... lengthsAndStates) {
        RescueDesk desk = Desks.of(sectors);
        desk.begin(0);
        desk.stop(0);
        Desks.pokeImage(desk, 1, number, lengthsAndStates);
        return desk.resume();
    }

    private static void slotsThatAreNotWhole() {
        CHECK.due("a whole one", resumed(6, 1, 2, 4, 4, 0), 1);
        CHECK.due("number 200", resumed(6, 200, 2, 4, 4, 0), -1);
        CHECK.due("number 255", resumed(6, 255, 2, 4, 4, 0), -1);
        CHECK.due("no runs", resumed(6, 1), -1);
        CHECK.due("too few sectors", resumed(6, 1, 2, 4, 3, 0), -1);
        CHECK.due("too many sectors", resumed(6, 1, 2, 4, 5, 0), -1);
        CHECK.due("far too many sectors", resumed(6, 1, 6, 4, 255, 0), -1);
        CHECK.due("sectors modulo 256", resumed(6, 1, 255, 4, 7, 0), -1);
        CHECK.due("state 5", resumed(6, 1, 2, 5, 4, 0), -1);
        CHECK.due("state 255", resumed(6, 1, 2, 4, 4, 255), -1);
        CHECK.due("a first run of length 0", resumed(6, 1, 0, 4, 6, 0), -1);
        CHECK.due("a last run of length 0", resumed(6, 1, 6, 4, 0, 0), -1);
        CHECK.due("a run of length 0 between", resumed(6, 1, 2, 4, 0, 3, 4, 0), -1);
        CHECK.due("two runs of one state", resumed(6, 1, 2, 4, 4, 4), -1);
        CHECK.due("the state again, not at once", resumed(6, 1, 2, 4, 1, 0, 3, 4), 1);
        for (int place = 0; place < 7; place++) {
            RescueDesk desk = Desks.of(6);
            desk.begin(0);
            desk.stop(0);
            Desks.pokeImage(desk, 0, 1, 2, 4, 4, 0);
            desk.poke(0, place, desk.image(0, place) + 1);
            CHECK.due("one byte more at " + place, desk.resume(), -1);
        }
        RescueDesk desk = Desks.of(6);
        desk.begin(0);
        desk.stop(0);
        Desks.pokeImage(desk, 0, 1, 2, 4, 4, 0);
        desk.poke(0, 6, 255);
        CHECK.due("a sum of 255", desk.resume(), -1);
        for (int runs : new int[] {65, 69, 70, 128, 255}) {
            RescueDesk many = Desks.of(64);
            many.begin(0);
            many.stop(0);
            Desks.pokeImage(many, 0, 1, 64, 4);
            many.poke(0, 1, runs);
            CHECK.due("so many runs: " + runs, many.resume(), -1);
        }
        noRoomForTheRuns();
        aSumAbove250();
    }

    private static void noRoomForTheRuns() {
        RescueDesk desk = Desks.of(64);
        desk.begin(0);
        desk.stop(0);
        for (int place = 0; place < 140; place++) {
            desk.poke(0, place, place % 2 == 0 ? 1 : place / 2 % 2 + 3);
            desk.poke(1, place, 255);
        }
        desk.poke(0, 1, 255);
        CHECK.due("runs that end behind the slot", desk.resume(), -1);
    }

    private static void aSumAbove250() {
        // Number 199 with 3 sectors RESCUED has the sum 199 + 2 + 9 + 16 = 226, with 12 it is 253, so 2.
        CHECK.due("a sum of 2", resumed(12, 199, 12, 4), 1);
        RescueDesk desk = Desks.of(12);
        desk.begin(0);
        desk.stop(0);
        Desks.pokeImage(desk, 1, 199, 12, 4);
        desk.poke(1, 4, 253);
        CHECK.due("the sum itself", desk.resume(), -1);
    }

    private static void wholeSlotsAtTheEdges() {
        CHECK.due("number 0", resumed(6, 0, 6, 4), 1);
        CHECK.due("number 199", resumed(6, 199, 6, 4), 1);
        CHECK.due("one sector", resumed(1, 1, 1, 3), 1);
        CHECK.due("64 sectors", resumed(64, 1, 64, 1), 1);
        CHECK.due("all states", resumed(5, 1, 1, 0, 1, 1, 1, 2, 1, 3, 1, 4), 1);
        CHECK.due("an image of a smaller source", resumed(6, 1, 5, 4), -1);
        CHECK.due("an image of a larger source", resumed(6, 1, 7, 4), -1);
    }

    private static void pokes() {
        RescueDesk desk = new RescueDesk();
        desk.poke(0, 0, 255);
        desk.poke(1, 139, 1);
        CHECK.due("a byte poked without a source", desk.image(0, 0), 255);
        CHECK.due("the last byte", desk.image(1, 139), 1);
        desk.poke(0, 0, 0);
        CHECK.due("poked to 0", desk.image(0, 0), 0);
        CHECK.due("the other slot's same place", desk.image(0, 139), 0);
        int[][] wrong = {
            {-1, 0, 0}, {2, 0, 0}, {0, -1, 0}, {0, 140, 0}, {1, 140, 0}, {1, 139, -1}, {1, 139, 256},
            {Integer.MAX_VALUE, 0, 0}, {Integer.MIN_VALUE, 0, 0}, {0, Integer.MAX_VALUE, 0},
            {0, Integer.MIN_VALUE, 0}, {1, 139, Integer.MAX_VALUE}, {1, 139, Integer.MIN_VALUE},
        };
        for (int[] row : wrong) {
            CHECK.badArgument("poke(" + row[0] + ", " + row[1] + ", " + row[2] + ")",
                    () -> desk.poke(row[0], row[1], row[2]));
        }
        CHECK.due("refused pokes change nothing", desk.image(1, 139), 1);
        RescueDesk copying = Desks.of(3);
        copying.begin(0);
        copying.poke(0, 7, 7);
        CHECK.due("poked while copying", copying.image(0, 7), 7);
        CHECK.due("the map is not touched", Desks.map(copying), "000");
        copying.stop(0);
        copying.poke(0, 7, 8);
        CHECK.due("poked while stopped", copying.image(0, 7), 8);
    }

    private static void imagesOfNoPlace() {
        RescueDesk desk = Desks.of(3);
        for (int slot : new int[] {-1, 2, Integer.MAX_VALUE, Integer.MIN_VALUE}) {
            CHECK.due("image(" + slot + ", 0)", desk.image(slot, 0), RescueDesk.NONE);
        }
        for (int place : new int[] {-1, 140, Integer.MAX_VALUE, Integer.MIN_VALUE}) {
            CHECK.due("image(1, " + place + ")", desk.image(1, place), RescueDesk.NONE);
        }
    }
}
