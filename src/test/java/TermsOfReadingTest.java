/** The boundary cases that the 'Terms' name of the source, its reads, the map and the phases, sentence by sentence. */
public final class TermsOfReadingTest {
    private static final Check CHECK = new Check();

    public static void main(String[] args) {
        aSourceHas1To64Sectors();
        aWordIs0AtFirst();
        failuresAre0AtFirst();
        soManyOfItsNextReadsFail();
        allOfItsReadsFail();
        eachThatAReadComesToHasOneReadMore();
        onlyTheOneThatFailsHasOneFailureLess();
        aReadThatFailedBringsNoWord();
        runsAreAsLongAsCanBe();
        theNextPhaseBeginsWithNoRead();
        forwardUpToSevenMore();
        forwardUntriedOnesAlone();
        forwardDone();
        forwardFailed();
        forwardLeapTwiceAsMuch();
        forwardLeapIs8Again();
        backwardBeginsBehindTheLast();
        backwardUpToSevenMore();
        backwardDone();
        backwardFailed();
        backwardLeapTwiceAsMuch();
        backwardLeapIs8Again();
        backwardLessThanNothing();
        sweepBeginsAt0();
        sweepWithoutLeaps();
        trimFirstSectors();
        trimLastSectors();
        trimWhatIsLeft();
        trimARunsEnd();
        scrape();
        retryEvenRounds();
        retryOddRounds();
        retryTheNextRound();
        retryTheRoundOfTheRetries();
        retryNoneBad();
        done();
        CHECK.end();
    }

    private static void aSourceHas1To64Sectors() {
        CHECK.about("THE SOURCE has 1 .. 64 SECTORS, 0, 1, ..");
        for (int n : new int[] {1, 2, 63, 64}) {
            RescueDesk desk = new RescueDesk();
            desk.source(n);
            desk.sector(0, 7, 0);
            desk.sector(n - 1, 8, 0);
            CHECK.badArgument("sector(-1) of " + n, () -> desk.sector(-1, 9, 0));
            CHECK.badArgument("sector(" + n + ") of " + n, () -> desk.sector(n, 9, 0));
            desk.begin(0);
            CHECK.due("count(0) of " + n, desk.count(0), n);
            CHECK.due("the only run's length", desk.part(0, 1), n);
            CHECK.due("reads of 8 sectors of " + n, desk.run(300), (n + 7) / 8);
            CHECK.due("the first word of " + n, desk.out(0), n == 1 ? 8 : 7);
            CHECK.due("the last word of " + n, desk.out(n - 1), 8);
        }
    }

    private static void aWordIs0AtFirst() {
        CHECK.about("each with a word (0 at first)");
        RescueDesk desk = Desks.of(3);
        desk.source(3);
        desk.begin(0);
        desk.stop(0);
        Desks.pokeImage(desk, 0, 5, 3, 3);
        desk.resume();
        // Without this the target would be 0, word or no word.
        desk.second(1, 9);
        CHECK.due("a second copy's word", desk.out(1), 9);
        desk.stop(0);
        desk.poke(0, 0, 200);
        desk.resume();
        desk.step();
        CHECK.due("the word that it has at first", desk.out(1), 0);
    }

    private static void failuresAre0AtFirst() {
        CHECK.about("FAILURES: how many of its next reads fail (0 at first)");
        RescueDesk desk = new RescueDesk();
        desk.source(64);
        desk.begin(5);
        CHECK.due("reads of a source as it is at first", desk.run(300), 8);
        CHECK.due("those that failed", desk.made(true), 0);
        desk = Desks.blank(3, 0, 1, 2);
        desk.source(3);
        desk.begin(0);
        CHECK.due("reads of a new source", desk.run(300), 1);
        CHECK.due("those of them that failed", desk.made(true), 0);
    }

    /** How many reads a lone sector has until it is rescued. */
    private static int readsUntilRescued(RescueDesk desk) {
        for (int i = 0; i < 30 && desk.state(0) != 4; i++) {
            desk.run(1);
            if (desk.phase() == 6) {
                desk.stop(0);
                desk.resume();
            }
        }
        return desk.made(false);
    }

    private static void soManyOfItsNextReadsFail() {
        CHECK.about("FAILURES: how many of its next reads fail");
        for (int failures = 0; failures <= 9; failures++) {
            RescueDesk desk = new RescueDesk();
            desk.source(1);
            desk.sector(0, 5, failures);
            desk.begin(5);
            CHECK.due("reads with failures " + failures, readsUntilRescued(desk), failures + 1);
            CHECK.due("those that failed", desk.made(true), failures);
            CHECK.due("reads of the sector", desk.reads(0), failures + 1);
            CHECK.due("its word", desk.out(0), 5);
        }
        RescueDesk desk = new RescueDesk();
        desk.source(1);
        desk.sector(0, 5, 9);
        desk.begin(5);
        desk.run(3);
        desk.sector(0, 5, 2);
        CHECK.due("the NEXT reads, from where they are set on", readsUntilRescued(desk), 6);
    }

    private static void allOfItsReadsFail() {
        CHECK.about("or all (-1); one less, if it isn't -1");
        RescueDesk desk = Desks.of(1, 0);
        desk.begin(5);
        for (int i = 0; i < 160; i++) {
            desk.run(300);
            desk.stop(0);
            desk.resume();
        }
        CHECK.due("all reads", desk.made(false), 160 * 7);
        CHECK.due("those that failed", desk.made(true), 160 * 7);
        CHECK.due("its word", desk.out(0), 0);
    }

    private static void eachThatAReadComesToHasOneReadMore() {
        CHECK.about("A READ .. goes through them from the first on: each that it comes to has one read more; one that"
                + " has failures fails, and then the whole read has failed and ends");
        for (int failing = 0; failing < 8; failing++) {
            RescueDesk desk = Desks.of(9, failing);
            desk.begin(0);
            CHECK.due("failing at " + failing, Desks.steps(desk, 9, 1), failing == 0 ? "0:0" : "0:0-" + failing);
            CHECK.due("all of it is UNTRIMMED", Desks.map(desk), "111111110");
            CHECK.due("one read is made", desk.made(false), 1);
            CHECK.due("it has failed", desk.made(true), 1);
        }
        RescueDesk desk = Desks.of(9, 8);
        desk.begin(0);
        CHECK.due("failing behind its end", Desks.steps(desk, 9, 1), "0:0-7");
        CHECK.due("one read is made", desk.made(false), 1);
        CHECK.due("it has not failed", desk.made(true), 0);
    }

    private static void onlyTheOneThatFailsHasOneFailureLess() {
        CHECK.about("one that has failures fails (and has one less ..), and then the whole read .. ends");
        RescueDesk desk = Desks.of(4);
        desk.sector(1, 11, 1);
        desk.sector(2, 12, 1);
        desk.begin(0);
        CHECK.due("the one behind it keeps its failure", Desks.steps(desk, 4, 5), "0:0-1 3:0 3:1 3:2 3:3");
        CHECK.due("what became of them", Desks.map(desk), "4434");
    }

    private static void aReadThatFailedBringsNoWord() {
        CHECK.about("otherwise all its words come to the TARGET");
        RescueDesk desk = Desks.withMap("3333", 0);
        for (int s = 0; s < 4; s++) {
            desk.second(s, 50 + s);
        }
        desk.stop(0);
        desk.poke(0, 0, 200);
        desk.sector(2, 102, 1);
        desk.resume();
        desk.step();
        for (int s = 0; s < 4; s++) {
            CHECK.due("the old word of " + s + " behind a read that failed", desk.out(s), 50 + s);
        }
        desk.run(1);
        CHECK.due("the word of a read that is done", desk.out(0), 100);
        CHECK.due("the word behind it", desk.out(1), 51);
        desk.run(300);
        CHECK.due("the last word", desk.out(3), 103);
    }

    private static void runsAreAsLongAsCanBe() {
        CHECK.about("RUNS are stretches of one state that are as long as can be, numbered from 0 on");
        RescueDesk desk = Desks.of(17);
        desk.begin(0);
        desk.step();
        CHECK.due("length of run 0", desk.part(0, 1), 8);
        desk.step();
        CHECK.due("length of run 0 behind the next read", desk.part(0, 1), 16);
        CHECK.due("first of run 1", desk.part(1, 0), 16);
        CHECK.due("no run 2", desk.part(2, 0), RescueDesk.NONE);
        desk.step();
        CHECK.due("length of the only run", desk.part(0, 1), 17);
        CHECK.due("no run 1", desk.part(1, 0), RescueDesk.NONE);
    }

    private static void theNextPhaseBeginsWithNoRead() {
        CHECK.about("if this has nothing to read, the next phase begins (with no read), and the step is made in that,"
                + " if it isn't 6");
        String[] mapAndStep = {"1:3:0", "2:4:0", "3:5:0", "4:6", "0:0:0"};
        for (String row : mapAndStep) {
            RescueDesk desk = Desks.withMap(row.substring(0, 1), 1);
            CHECK.due("phase with a map of " + row.charAt(0), desk.phase(), 0);
            CHECK.due("run(0) begins no phase", desk.run(0) * 10 + desk.phase(), 0);
            CHECK.due("the one step", Desks.steps(desk, 1, 1), row.substring(2));
            CHECK.due("the phase behind it", desk.phase(), row.charAt(2) - '0');
            CHECK.due("the reads made", desk.made(false), row.length() > 3 ? 1 : 0);
        }
        RescueDesk desk = Desks.withMap("40", 0);
        desk.step();
        CHECK.due("phase behind the last read", desk.phase(), 0);
        CHECK.due("the next step", desk.step(), 6);
        CHECK.due("phase behind it", desk.phase(), 6);
        CHECK.due("and the next", desk.step(), 6);
        CHECK.due("reads", desk.made(false), 1);
    }

    private static void forwardUpToSevenMore() {
        CHECK.about("0 FORWARD: the first UNTRIED sector from p on, and up to seven more UNTRIED ones behind it");
        String[] sizeAndSteps = {"1 0:0 6", "2 0:0-1 6", "7 0:0-6 6", "8 0:0-7 6", "9 0:0-7 0:8", "15 0:0-7 0:8-14",
            "16 0:0-7 0:8-15", "17 0:0-7 0:8-15"};
        for (String row : sizeAndSteps) {
            int n = Integer.parseInt(row.substring(0, row.indexOf(' ')));
            RescueDesk desk = Desks.of(n);
            desk.begin(0);
            CHECK.due("steps of " + n + " sectors", Desks.steps(desk, n, 2), row.substring(row.indexOf(' ') + 1));
        }
    }

    private static void forwardUntriedOnesAlone() {
        CHECK.about("0 FORWARD: the first UNTRIED sector .., and .. more UNTRIED ones behind it");
        for (char tried = '1'; tried <= '4'; tried++) {
            RescueDesk desk = Desks.withMap("t00t00000000t0t".replace('t', tried), 0);
            CHECK.due("stretches between sectors in state " + tried, Desks.steps(desk, 15, 3), "0:1-2 0:4-11 0:13");
        }
        RescueDesk desk = Desks.withMap("40000000040", 0);
        CHECK.due("eight that end at one that is tried", Desks.steps(desk, 11, 2), "0:1-8 0:10");
        desk = Desks.withMap("400000000", 0);
        CHECK.due("eight that end with the source", Desks.steps(desk, 9, 2), "0:1-8 6");
    }

    private static void forwardDone() {
        CHECK.about("0 FORWARD: if the read is done, .. p [becomes] what is behind the stretch");
        RescueDesk desk = Desks.of(20);
        desk.begin(0);
        CHECK.due("stretches that follow one another", Desks.steps(desk, 20, 4), "0:0-7 0:8-15 0:16-19 6");
        desk = Desks.withMap("0400", 0);
        CHECK.due("behind a short stretch", Desks.steps(desk, 4, 3), "0:0 0:2-3 6");
    }

    private static void forwardFailed() {
        CHECK.about("0 FORWARD: else the stretch becomes UNTRIMMED, p what is behind it and the leap more");
        RescueDesk desk = Desks.of(15, 0);
        desk.begin(0);
        CHECK.due("a leap over the end", Desks.steps(desk, 15, 2), "0:0 1:8-14");
        desk = Desks.of(16, 0);
        desk.begin(0);
        CHECK.due("a leap to just behind the last sector", Desks.steps(desk, 16, 2), "0:0 1:8-15");
        desk = Desks.of(17, 0);
        desk.begin(0);
        CHECK.due("a leap to the last sector", Desks.steps(desk, 17, 3), "0:0 0:16 1:8-15");
        // The stretch is sector 0 alone, so p is 9: sector 8 is left, and sector 9 is the first that is read.
        desk = Desks.withMap("0444444400", 0, 0);
        CHECK.due("a leap behind a short stretch", Desks.steps(desk, 10, 3), "0:0 0:9 1:8");
        desk = Desks.withMap("044444440", 0, 0);
        CHECK.due("the sector before p is not read", Desks.steps(desk, 9, 2), "0:0 1:8");
    }

    private static void forwardLeapTwiceAsMuch() {
        CHECK.about("0 FORWARD (.. the leap 8 when it begins): .. and the leap twice as much, at most 32");
        // Single sectors that fail, each where the last leap ends, beside one just before p that must be left.
        RescueDesk desk = Desks.blankMap(singles(64, 0, 8, 9, 25, 26, 58, 59), 0, 0, 9, 26, 59);
        CHECK.due("leaps of 8, 16 and 32", Desks.steps(desk, 64, 5), "0:0 0:9 0:26 0:59 1:58");
    }

    private static void forwardLeapIs8Again() {
        CHECK.about("0 FORWARD: if the read is done, the leap becomes 8");
        RescueDesk desk = Desks.blankMap(singles(64, 0, 9, 10, 11, 19, 20, 21), 0, 0, 11);
        // 0 fails (leap 16), 9-11 is one stretch that fails at 11: so the leap is 16 there.
        CHECK.due("16 with no read done between", Desks.steps(desk, 64, 3), "0:0 0:9-11 1:19-21");
        desk = Desks.blankMap(singles(64, 0, 9, 11, 19, 20), 0, 0, 11);
        CHECK.due("8 behind one that is done", Desks.steps(desk, 64, 4), "0:0 0:9 0:11 0:20");
        desk = Desks.blankMap(singles(64, 0, 9, 26, 28, 36, 37), 0, 0, 9, 28);
        CHECK.due("8 again behind leaps of 8 and 16", Desks.steps(desk, 64, 5), "0:0 0:9 0:26 0:28 0:37");
    }

    /** A map of n sectors of which these alone are UNTRIED, the others being RESCUED. */
    private static String singles(int n, int... untried) {
        StringBuilder map = new StringBuilder("4".repeat(n));
        for (int s : untried) {
            map.setCharAt(s, '0');
        }
        return map.toString();
    }

    private static void backwardBeginsBehindTheLast() {
        CHECK.about("1 BACKWARD (p is the number of sectors, the leap 8): the last UNTRIED sector below p");
        // FORWARD ends with p 16 and the leap 16; BACKWARD takes neither.
        RescueDesk desk = Desks.of(16, 0);
        desk.begin(0);
        desk.step();
        CHECK.due("the last sector of all", Desks.steps(desk, 16, 1), "1:8-15");
        // Forward fails at 0 and 9, and its leap is 32 then; 25 less 8 is 17.
        desk = Desks.blankMap(singles(26, 0, 9, 15, 16, 17, 25), 0, 0, 9, 25);
        CHECK.due("the leap is 8 again", Desks.steps(desk, 26, 5), "0:0 0:9 1:25 1:15-16 2:17");
    }

    private static void backwardUpToSevenMore() {
        CHECK.about("1 BACKWARD: .. and up to seven more UNTRIED ones before it");
        // 0-7 fails, so that 8 .. 8 + left - 1 are left for BACKWARD; 16 is RESCUED already, or not there.
        for (int left = 1; left <= 8; left++) {
            String map = "0".repeat(8) + "4".repeat(8 - left) + "0".repeat(left) + "4";
            RescueDesk desk = Desks.withMap(map, 0, 0);
            String stretch = left == 1 ? "15" : (16 - left) + "-15";
            CHECK.due("with " + left + " left", Desks.steps(desk, 17, 3), "0:0 1:" + stretch + " 3:0");
        }
        // Two leaps (8, 16) leave 16 sectors that follow one another.
        RescueDesk desk = Desks.blank(40, 0, 16);
        desk.begin(0);
        CHECK.due("with sixteen left", Desks.steps(desk, 40, 5), "0:0 0:16 1:32-39 1:24-31 1:8-15");
        for (char tried = '1'; tried <= '4'; tried++) {
            desk = Desks.withMap("04" + "t00t00t".replace('t', tried), 0, 0);
            CHECK.due("stretches between sectors in state " + tried, Desks.steps(desk, 9, 3), "0:0 1:6-7 1:3-4");
        }
    }

    private static void backwardDone() {
        CHECK.about("1 BACKWARD: if it is done, .. p [becomes] the first of the stretch");
        RescueDesk desk = Desks.withMap("0400000000", 0, 0);
        CHECK.due("one stretch, then the next below it", Desks.steps(desk, 10, 3), "0:0 0:9 1:2-8");
        desk = Desks.blank(40, 0, 16);
        desk.begin(0);
        desk.run(2);
        CHECK.due("no sector is read twice", Desks.steps(desk, 40, 4), "1:32-39 1:24-31 1:8-15 3:0");
    }

    private static void backwardFailed() {
        CHECK.about("1 BACKWARD: else it becomes UNTRIMMED, p the first of it less the leap");
        // Forward fails at 0, 9 and 26, and leaps over the rest.
        RescueDesk desk = Desks.blankMap(singles(59, 0, 9, 26, 47, 48, 49, 50, 57, 58), 0, 0, 9, 26, 57);
        desk.run(3);
        // 57-58 fails: p is 49, so that 49 is left and 47-48 is read; the sweep reads 49-50.
        CHECK.due("the first sector below p", Desks.steps(desk, 59, 3), "1:57 1:47-48 2:49-50");
        CHECK.due("what failed is UNTRIMMED", desk.state(57) * 10 + desk.state(58), 11);
    }

    private static void backwardLeapTwiceAsMuch() {
        CHECK.about("1 BACKWARD: .. and the leap twice as much, at most 32");
        RescueDesk desk = Desks.blankMap(singles(59, 0, 9, 26, 31, 32, 33, 48, 49, 50, 58), 0, 0, 9, 26, 58, 48);
        desk.run(3);
        // 58 fails: p is 50. 48-49 fails: p is 32.
        CHECK.due("leaps of 8 and 16", Desks.steps(desk, 59, 4), "1:58 1:48 1:31 2:32-33");
        desk = Desks.blankMap(singles(59, 0, 9, 14, 26, 31, 33, 49, 58), 0, 0, 9, 26, 58, 49, 31);
        desk.run(3);
        // 58 fails: p is 50. 49 fails: p is 33. 31 fails: p is -1, and 14 is left for the sweep.
        CHECK.due("leaps of 8, 16 and 32", Desks.steps(desk, 59, 4), "1:58 1:49 1:31 2:14");
    }

    private static void backwardLeapIs8Again() {
        CHECK.about("1 BACKWARD: if it is done, the leap becomes 8");
        RescueDesk desk = Desks.blankMap(singles(59, 0, 9, 26, 31, 32, 33, 39, 40, 42, 49, 58), 0, 0, 9, 26, 58, 42);
        desk.run(3);
        // 58 fails (p 50, leap 16), 49 is done (leap 8), 42 fails (p 34).
        CHECK.due("8 behind one that is done", Desks.steps(desk, 59, 4), "1:58 1:49 1:42 1:31-33");
    }

    private static void backwardLessThanNothing() {
        CHECK.about("1 BACKWARD: .. p the first of it less the leap: 0, or below 0");
        for (int first = 4; first <= 8; first++) {
            RescueDesk desk = Desks.withMap(singles(9, 0, 2, first), 0, 0, first);
            CHECK.due("a leap from " + first, Desks.steps(desk, 9, 4), "0:0 1:" + first + " 2:2 3:0");
        }
        RescueDesk desk = Desks.withMap(singles(10, 1, 3, 9), 0, 1, 9);
        CHECK.due("a leap from 9 to 1", Desks.steps(desk, 10, 4), "0:1 1:9 2:3 3:1");
    }

    // FORWARD leaps from 0 to 9, 26 and 59, BACKWARD from 58 to 50, 33 and below 0.
    private static RescueDesk readyToSweep(String map, int... failing) {
        RescueDesk desk = Desks.blankMap(map, 0, 0, 9, 26, 58, 49, 31);
        for (int s : failing) {
            desk.sector(s, 0, -1);
        }
        CHECK.due("reads before the sweep", desk.run(6), 6);
        CHECK.due("phase before the sweep", desk.phase(), 1);
        return desk;
    }

    private static void sweepBeginsAt0() {
        CHECK.about("2 SWEEP (p is 0): as FORWARD");
        RescueDesk desk = readyToSweep(singles(60, 0, 2, 9, 26, 31, 49, 55, 58));
        CHECK.due("the first UNTRIED sector of all", Desks.steps(desk, 60, 3), "2:2 2:55 3:0");
        desk = readyToSweep(singles(60, 0, 9, 11, 12, 13, 14, 15, 16, 17, 18, 19, 20, 26, 31, 49, 58));
        CHECK.due("up to seven more", Desks.steps(desk, 60, 3), "2:11-18 2:19-20 3:0");
    }

    private static void sweepWithoutLeaps() {
        CHECK.about("2 SWEEP: without leaps: p becomes what is behind the stretch");
        RescueDesk desk = readyToSweep(singles(60, 0, 2, 4, 6, 7, 9, 26, 31, 49, 58), 2, 6);
        CHECK.due("reads that fail and one that is done", Desks.steps(desk, 60, 4), "2:2 2:4 2:6 3:0");
        CHECK.due("what failed is UNTRIMMED", desk.state(2) * 100 + desk.state(6) * 10 + desk.state(7), 111);
        desk = readyToSweep(singles(60, 0, 9, 11, 12, 13, 14, 15, 16, 17, 18, 19, 20, 26, 31, 49, 58), 11);
        CHECK.due("just behind one that failed", Desks.steps(desk, 60, 3), "2:11 2:19-20 3:0");
    }

    private static void trimFirstSectors() {
        CHECK.about("3 TRIM: of the first run that is UNTRIMMED the first sector, as long as these reads are done");
        RescueDesk desk = Desks.withMap("2113111", 0);
        CHECK.due("first sectors of both runs", Desks.steps(desk, 7, 6), "3:1 3:2 3:4 3:5 3:6 4:0");
        CHECK.due("what became of them", Desks.map(desk), "4443444");
        // A stop between the first sectors and the last ones.
        desk = Desks.withMap("1114111", 0, 0);
        desk.run(1);
        desk.stop(140);
        desk.resume();
        CHECK.due("the phase begins with first sectors", Desks.steps(desk, 7, 3), "3:1 3:2 3:4");
    }

    private static void trimLastSectors() {
        CHECK.about("3 TRIM: one that fails becomes BAD, and from then on it is the last sector of the first run that"
                + " is UNTRIMMED");
        RescueDesk desk = Desks.withMap("1111411", 0, 0);
        CHECK.due("its last sectors", Desks.steps(desk, 7, 4), "3:0 3:3 3:2 3:1");
        CHECK.due("what became of them", Desks.map(desk), "3444411");
        desk = Desks.withMap("1111411", 0, 1);
        CHECK.due("when a later one fails", Desks.steps(desk, 7, 4), "3:0 3:1 3:3 3:2");
        CHECK.due("what became of them", Desks.map(desk), "4344411");
        desk = Desks.withMap("1".repeat(20) + "41", 0, 0);
        CHECK.due("of a run longer than a read", Desks.steps(desk, 22, 3), "3:0 3:19 3:18");
    }

    private static void trimWhatIsLeft() {
        CHECK.about("3 TRIM: when that fails, it becomes BAD, what is left of this run becomes UNSCRAPED, and it goes"
                + " on with first sectors");
        RescueDesk desk = Desks.withMap("111114111", 0, 0, 4);
        CHECK.due("three are left", Desks.steps(desk, 9, 5), "3:0 3:4 3:6 3:7 3:8");
        CHECK.due("what became of them", Desks.map(desk), "322234444");
        desk = Desks.withMap("1114111", 0, 0, 2);
        CHECK.due("one is left", Desks.steps(desk, 7, 5), "3:0 3:2 3:4 3:5 3:6");
        CHECK.due("what became of it", Desks.map(desk), "3234444");
        desk = Desks.withMap("114111", 0, 0, 1);
        CHECK.due("none is left", Desks.steps(desk, 6, 6), "3:0 3:1 3:3 3:4 3:5 6");
        CHECK.due("what became of them", Desks.map(desk), "334444");
        desk = Desks.withMap("111141111", 0, 1, 3, 5, 8);
        CHECK.due("of this run alone", Desks.steps(desk, 9, 5), "3:0 3:1 3:3 3:5 3:8");
        CHECK.due("what became of both", Desks.map(desk), "432343223");
    }

    private static void trimARunsEnd() {
        CHECK.about("3 TRIM: when a run comes to its end, it goes on with first sectors, too");
        RescueDesk desk = Desks.withMap("1411", 0, 0);
        CHECK.due("its only sector failed", Desks.steps(desk, 4, 4), "3:0 3:2 3:3 6");
        desk = Desks.withMap("11411", 0, 1);
        CHECK.due("its last sector failed as a first one", Desks.steps(desk, 5, 5), "3:0 3:1 3:3 3:4 6");
        desk = Desks.withMap("11411", 0, 0);
        CHECK.due("its last sector was done, behind a first one that failed", Desks.steps(desk, 5, 5),
                "3:0 3:1 3:3 3:4 6");
        desk = Desks.withMap("111411", 0, 0, 1);
        CHECK.due("its last one that is left failed", Desks.steps(desk, 6, 6), "3:0 3:2 3:1 3:4 3:5 6");
        desk = Desks.withMap("1", 0, 0);
        CHECK.due("the source has no other", Desks.steps(desk, 1, 2), "3:0 6");
    }

    private static void scrape() {
        CHECK.about("4 SCRAPE: the first UNSCRAPED sector; it becomes BAD if the read fails");
        RescueDesk desk = Desks.withMap("2324222", 0, 0, 6);
        CHECK.due("from the first to the last", Desks.steps(desk, 7, 6), "4:0 4:2 4:4 4:5 4:6 6");
        CHECK.due("what became of them", Desks.map(desk), "3344443");
    }

    private static void retryEvenRounds() {
        CHECK.about("5 RETRY (the round is 0): in even rounds p begins as 0, and it is the first BAD sector from p on,"
                + " p becoming what is behind it");
        RescueDesk desk = Desks.withMap("33433", 1, 0, 1, 3);
        CHECK.due("from the first to the last sector", Desks.steps(desk, 5, 5), "5:0 5:1 5:3 5:4 6");
        CHECK.due("what became of them", Desks.map(desk), "33434");
    }

    private static void retryOddRounds() {
        CHECK.about("5 RETRY: in odd rounds p begins as the number of sectors, and it is the last BAD sector below p,"
                + " p becoming that sector");
        RescueDesk desk = Desks.withMap("33433", 2, 0, 1, 3, 4);
        desk.run(4);
        CHECK.due("from the last to the first sector", Desks.steps(desk, 5, 5), "5:4 5:3 5:1 5:0 6");
    }

    private static void retryTheNextRound() {
        CHECK.about("5 RETRY: if there is none, the next round begins");
        RescueDesk desk = Desks.withMap("43434", 5, 1, 3);
        CHECK.due("five rounds", Desks.steps(desk, 5, 11), "5:1 5:3 5:3 5:1 5:1 5:3 5:3 5:1 5:1 5:3 6");
        desk = Desks.withMap("33", 3, 0);
        CHECK.due("a round with one sector less", Desks.steps(desk, 2, 5), "5:0 5:1 5:0 5:0 6");
        desk = Desks.withMap("333", 4, 0, 1, 2);
        desk.run(2);
        desk.second(2, 1);
        CHECK.due("none is left in this round", Desks.steps(desk, 3, 2), "5:1 5:0");
        desk.second(0, 1);
        CHECK.due("in the next two", Desks.steps(desk, 3, 3), "5:1 5:1 6");
    }

    private static void retryTheRoundOfTheRetries() {
        CHECK.about("5 RETRY: it has nothing to read when the round is that of the RETRIES");
        for (int retries = 0; retries <= 5; retries++) {
            RescueDesk desk = Desks.withMap("334", retries, 0, 1);
            CHECK.due("reads with retries " + retries, desk.run(300), 2 * retries);
            CHECK.due("phase behind them", desk.phase(), 6);
            CHECK.due("what is BAD still", desk.count(3), 2);
        }
    }

    private static void retryNoneBad() {
        CHECK.about("5 RETRY: it has nothing to read when .. no sector is BAD");
        RescueDesk desk = Desks.withMap("444", 5);
        CHECK.due("none from the beginning", Desks.steps(desk, 3, 1), "6");
        desk = Desks.withMap("434", 5);
        CHECK.due("none behind a retry that is done", Desks.steps(desk, 3, 2), "5:1 6");
        desk = Desks.withMap("434", 5, 1);
        desk.run(1);
        desk.second(1, 1);
        CHECK.due("phase with none BAD behind a second copy", desk.phase(), 5);
        CHECK.due("its step", Desks.steps(desk, 3, 1), "6");
    }

    private static void done() {
        CHECK.about("6 DONE");
        RescueDesk desk = Desks.withMap("4343", 0);
        CHECK.due("step", desk.step(), 6);
        desk.sector(1, 1, 0);
        CHECK.due("step again, with a BAD sector that could be read", desk.step(), 6);
        CHECK.due("run", desk.run(300), 0);
        CHECK.due("phase", desk.phase(), 6);
        CHECK.due("reads", desk.made(false), 0);
        CHECK.due("the map", Desks.map(desk), "4343");
    }
}
