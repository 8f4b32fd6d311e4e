/** Promises 4 (begin), 5 (step) and 6 (run), 17 (reads) and 18 (made), and the phases of the terms. */
public final class CopyingTest {
    private static final Check CHECK = new Check();

    public static void main(String[] args) {
        begins();
        steps();
        runs();
        aReadThatFailsBringsNothing();
        forwardLeaps();
        forwardLeapIsShortAgain();
        forwardStretchesAreUntried();
        backwardLeaps();
        backwardLeapIsShortAgain();
        backwardStretchesAreUntried();
        sweepsWhatWasLeaptOver();
        sweepsWithoutLeaps();
        trimsBothEnds();
        trimsFirstSectorsBehindARunsEnd();
        trimsFirstSectorsBehindARunRescuedFromTheEnd();
        trimsASingleSector();
        trimBeginsAnewBehindAStop();
        scrapes();
        retriesToAndFro();
        retriesWhatIsStillBad();
        noRetries();
        CHECK.end();
    }

    private static void begins() {
        RescueDesk desk = Desks.of(10);
        for (int retries : new int[] {-1, 6, Integer.MAX_VALUE, Integer.MIN_VALUE}) {
            CHECK.badArgument("begin(" + retries + ")", () -> desk.begin(retries));
        }
        CHECK.badArgument("begin(6) without a source", () -> new RescueDesk().begin(6));
        CHECK.due("phase before it begins", desk.phase(), RescueDesk.NONE);
        desk.begin(5);
        CHECK.due("phase when it begins", desk.phase(), 0);
        CHECK.due("map when it begins", Desks.map(desk), "0000000000");
        CHECK.badState("begin twice", () -> desk.begin(0));
        CHECK.badArgument("begin(-1) when begun", () -> desk.begin(-1));
        desk.run(300);
        CHECK.badState("begin when done", () -> desk.begin(0));
        desk.stop(0);
        CHECK.badState("begin when stopped", () -> desk.begin(0));
        CHECK.due("phase behind a refused begin", desk.phase(), 7);
    }

    private static void steps() {
        RescueDesk desk = Desks.of(10);
        CHECK.badState("step before begin", desk::step);
        desk.begin(1);
        CHECK.due("a source without failures", Desks.steps(desk, 10, 4), "0:0-7 0:8-9 6 6");
        CHECK.due("phase when it is done", desk.phase(), 6);
        desk.stop(0);
        CHECK.badState("step when stopped", desk::step);
        CHECK.due("a refused step makes no read", desk.made(false), 2);
    }

    private static void runs() {
        RescueDesk desk = Desks.of(64);
        CHECK.badState("run before begin", () -> desk.run(1));
        CHECK.badArgument("run(-1) before begin", () -> desk.run(-1));
        desk.begin(0);
        for (int n : new int[] {-1, 301, Integer.MAX_VALUE, Integer.MIN_VALUE}) {
            CHECK.badArgument("run(" + n + ")", () -> desk.run(n));
        }
        CHECK.due("run(0)", desk.run(0), 0);
        CHECK.due("reads behind run(0)", desk.made(false), 0);
        CHECK.due("run(3)", desk.run(3), 3);
        CHECK.due("reads behind run(3)", desk.made(false), 3);
        CHECK.due("run(5)", desk.run(5), 5);
        CHECK.due("phase as long as it read", desk.phase(), 0);
        CHECK.due("run(0) begins no phase", desk.run(0), 0);
        CHECK.due("phase behind run(0)", desk.phase(), 0);
        CHECK.due("run(1) with nothing left", desk.run(1), 0);
        CHECK.due("phase when nothing was left", desk.phase(), 6);
        CHECK.due("run(300) when done", desk.run(300), 0);
        desk.stop(0);
        CHECK.badState("run when stopped", () -> desk.run(0));
        CHECK.badArgument("run(301) when stopped", () -> desk.run(301));

        RescueDesk bad = new RescueDesk();
        bad.source(64);
        for (int s = 0; s < 64; s++) {
            bad.sector(s, 1, -1);
        }
        bad.begin(5);
        CHECK.due("run(300) of a disk that is all bad", bad.run(300), 300);
        CHECK.due("phase behind it", bad.phase(), 5);
        CHECK.due("the rest of it", bad.run(300), 8 + 64 + 5 * 64 - 300);
        CHECK.due("all its reads failed", bad.made(true), 392);
    }

    private static void aReadThatFailsBringsNothing() {
        RescueDesk desk = Desks.of(8);
        desk.sector(3, 103, 1);
        desk.sector(5, 105, 1);
        desk.begin(0);
        desk.step();
        CHECK.due("it ends where it fails", Desks.reads(desk, 8), "1 1 1 1 0 0 0 0");
        CHECK.due("no word of it comes to the target", desk.out(0), 0);
        CHECK.due("all of it is UNTRIMMED", Desks.map(desk), "11111111");
        CHECK.due("made", desk.made(false), 1);
        CHECK.due("failed", desk.made(true), 1);
        desk.run(300);
        CHECK.due("3 has no failure left, but 5 has", Desks.reads(desk, 8), "2 2 2 2 1 1 1 1");
        CHECK.due("reads of no sector", desk.reads(8), 0);
        CHECK.due("reads of no sector", desk.reads(-1), 0);
        CHECK.due("reads of no sector", desk.reads(64), 0);
        CHECK.due("the failed read of 5", desk.made(true), 2);
    }

    private static void forwardLeaps() {
        RescueDesk desk = Desks.blank(64, 0, 16, 40);
        desk.begin(0);
        CHECK.due("leaps of 8, 16 and 32", Desks.steps(desk, 64, 4), "0:0 0:16 0:40 1:56-63");
        CHECK.due("what was leapt over", Desks.map(desk),
                "1111111100000000111111110000000000000000111111110000000044444444");
    }

    private static void forwardLeapIsShortAgain() {
        RescueDesk desk = Desks.blank(64, 0, 24);
        desk.begin(0);
        CHECK.due("8 again behind a read that is done", Desks.steps(desk, 64, 4), "0:0 0:16-23 0:24 0:40-47");
    }

    private static void forwardStretchesAreUntried() {
        RescueDesk desk = Desks.withMap("00400300000000000010", 0);
        CHECK.due("stretches end at what is tried", Desks.steps(desk, 20, 6),
                "0:0-1 0:3-4 0:6-13 0:14-17 0:19 3:18");
    }

    private static void backwardLeaps() {
        RescueDesk desk = Desks.blank(64, 0, 16, 40, 60, 33);
        desk.begin(0);
        desk.run(3);
        CHECK.due("leaps of 8 and 16", Desks.steps(desk, 64, 5), "1:56-60 1:32-33 1:8-15 2:24-31 2:48-55");
        CHECK.due("what failed backward", Desks.map(desk),
                "1111111144444444111111114444444411111111111111114444444411111111");
    }

    private static void backwardLeapIsShortAgain() {
        RescueDesk desk = Desks.blank(64, 0, 16, 40, 60, 24);
        desk.begin(0);
        desk.run(3);
        // 56-63 fails (leap 8), 32-39 is done, 24-31 fails (leap 8 again), and nothing is below 16 but 8-15.
        CHECK.due("8 again behind a read that is done", Desks.steps(desk, 64, 4),
                "1:56-60 1:32-39 1:24 1:8-15");
        CHECK.due("the sweep reads the rest", Desks.steps(desk, 64, 1), "2:48-55");
        RescueDesk three = Desks.blank(64, 0, 16, 40, 63, 39, 15);
        three.begin(0);
        three.run(3);
        CHECK.due("a leap below sector 0", Desks.steps(three, 64, 5), "1:56-63 1:32-39 1:8-15 2:24-31 2:48-55");
    }

    private static void backwardStretchesAreUntried() {
        // Forward fails at 0 and leaps over all but the last.
        RescueDesk desk = Desks.withMap("0400004000", 0, 0);
        CHECK.due("stretches end at what is tried", Desks.steps(desk, 10, 4), "0:0 0:9 1:7-8 1:2-5");
    }

    private static void sweepsWhatWasLeaptOver() {
        RescueDesk desk = Desks.blank(64, 0, 16, 40, 60, 33, 26, 50);
        desk.begin(0);
        desk.run(6);
        CHECK.due("p is behind the stretch, failed or not", Desks.steps(desk, 64, 3), "2:24-26 2:48-50 3:0");
        CHECK.due("what failed is UNTRIMMED", desk.state(24) * 10 + desk.state(55), 11);
    }

    private static void sweepsWithoutLeaps() {
        // Short stretches, so that both ways' leaps leave 31-46 and 55-58 UNTRIED.
        String map = "0" + "4".repeat(8) + "0" + "4".repeat(16) + "04" + "0".repeat(34) + "40";
        RescueDesk desk = Desks.withMap(map, 0, 0, 9, 26, 59, 63, 50, 33);
        desk.run(7);
        CHECK.due("a failed read is no reason to leap", Desks.steps(desk, 64, 4), "2:31-33 2:39-46 2:55-58 3:0");
    }

    private static void trimsBothEnds() {
        RescueDesk desk = Desks.of(8, 2, 5);
        desk.begin(0);
        CHECK.due("first sectors, then last ones", Desks.steps(desk, 8, 7), "0:0-2 3:0 3:1 3:2 3:7 3:6 3:5");
        CHECK.due("what is left is UNSCRAPED", Desks.map(desk), "44322344");
        CHECK.due("phase behind the last trim", desk.phase(), 3);
        CHECK.due("the rest is scraped", Desks.steps(desk, 8, 3), "4:3 4:4 6");
        CHECK.due("the end", Desks.map(desk), "44344344");
        CHECK.due("a rescued word", desk.out(3), 103);
        CHECK.due("a bad sector's word", desk.out(2), 0);
    }

    private static void trimsFirstSectorsBehindARunsEnd() {
        RescueDesk desk = Desks.withMap("1114111", 0, 2);
        CHECK.due("the last of a run fails as its first", Desks.steps(desk, 7, 6), "3:0 3:1 3:2 3:4 3:5 3:6");
    }

    private static void trimsFirstSectorsBehindARunRescuedFromTheEnd() {
        RescueDesk desk = Desks.withMap("1114111", 0, 0, 4, 6);
        CHECK.due("a run ends with its last sectors", Desks.steps(desk, 7, 5), "3:0 3:2 3:1 3:4 3:6");
        CHECK.due("the next one's rest", Desks.map(desk), "3444323");
        CHECK.due("it is scraped", Desks.steps(desk, 7, 2), "4:5 6");
    }

    private static void trimsASingleSector() {
        RescueDesk desk = Desks.withMap("1411411", 0, 0, 2, 3);
        CHECK.due("single sectors that fail", Desks.steps(desk, 7, 5), "3:0 3:2 3:3 3:5 3:6");
        CHECK.due("nothing is left to scrape", Desks.map(desk), "3433444");
    }

    private static void trimBeginsAnewBehindAStop() {
        RescueDesk desk = Desks.of(8, 2, 5);
        desk.begin(0);
        desk.run(5);
        desk.stop(200);
        desk.resume();
        CHECK.due("with the first sector that is left", Desks.steps(desk, 8, 3), "3:3 3:4 3:5");
    }

    private static void scrapes() {
        RescueDesk desk = Desks.withMap("2242232", 0, 1, 3);
        CHECK.due("first UNSCRAPED sectors", Desks.steps(desk, 7, 6), "4:0 4:1 4:3 4:4 4:6 6");
        CHECK.due("what fails is BAD", Desks.map(desk), "4343434");
    }

    private static void retriesToAndFro() {
        RescueDesk desk = Desks.withMap("4343343", 3, 1, 3, 4, 6);
        CHECK.due("even rounds go up, odd ones down", Desks.steps(desk, 7, 13),
                "5:1 5:3 5:4 5:6 5:6 5:4 5:3 5:1 5:1 5:3 5:4 5:6 6");
        CHECK.due("phase in the end", desk.phase(), 6);
    }

    private static void retriesWhatIsStillBad() {
        RescueDesk desk = Desks.withMap("333", 5);
        desk.sector(0, 7, 2);
        desk.sector(2, 9, 1);
        CHECK.due("what is rescued is left out", Desks.steps(desk, 3, 7), "5:0 5:1 5:2 5:2 5:0 5:0 6");
        CHECK.due("all is rescued", Desks.map(desk), "444");
        CHECK.due("the words", desk.out(0) * 10 + desk.out(2), 79);

        RescueDesk second = Desks.withMap("333", 5, 0, 1, 2);
        second.run(4);
        second.second(1, 50);
        CHECK.due("a second copy leaves fewer", Desks.steps(second, 3, 3), "5:0 5:0 5:2");
        second.second(0, 50);
        second.second(2, 50);
        CHECK.due("phase with none BAD", second.phase(), 5);
        CHECK.due("nothing to read with none BAD", Desks.steps(second, 3, 1), "6");
    }

    private static void noRetries() {
        RescueDesk desk = Desks.withMap("333", 0);
        CHECK.due("no retries", Desks.steps(desk, 3, 1), "6");
        RescueDesk one = Desks.withMap("333", 1, 0, 2);
        CHECK.due("one round", Desks.steps(one, 3, 4), "5:0 5:1 5:2 6");
    }
}
