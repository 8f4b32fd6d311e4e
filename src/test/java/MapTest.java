/** Promises 11 (second), 12 (state), 13 (count), 14 (part), 15 (phase) and 16 (out). */
public final class MapTest {
    private static final Check CHECK = new Check();
    private static final int[] FAR = {Integer.MIN_VALUE, -2, -1, 64, 65, Integer.MAX_VALUE};

    public static void main(String[] args) {
        secondCopies();
        secondCopiesRefused();
        states();
        counts();
        parts();
        partsFallTogether();
        phases();
        wordsOut();
        CHECK.end();
    }

    private static void secondCopies() {
        String all = "01234";
        for (int s = 0; s < 5; s++) {
            RescueDesk desk = Desks.withMap(all, 0);
            boolean bad = s == 3;
            CHECK.due("second of a sector in state " + s, desk.second(s, 55), bad);
            CHECK.due("its word", desk.out(s), bad ? 55 : 0);
            CHECK.due("the map", Desks.map(desk), bad ? "01244" : all);
            CHECK.due("it is no read", desk.made(false) + desk.reads(s), 0);
        }
        RescueDesk desk = Desks.withMap("33", 1);
        CHECK.due("second", desk.second(1, Integer.MIN_VALUE), true);
        CHECK.due("second again", desk.second(1, 6), false);
        CHECK.due("the first word stays", desk.out(1), Integer.MIN_VALUE);
        CHECK.due("only the other is retried", Desks.steps(desk, 2, 2), "5:0 6");
        desk.stop(0);
        Desks.pokeImage(desk, 0, 1, 2, 0);
        desk.resume();
        desk.step();
        CHECK.due("the source's word is not changed", desk.out(1), 101);
        RescueDesk done = Desks.of(1, 0);
        done.begin(0);
        done.run(300);
        CHECK.due("second when done", done.second(0, 4), true);
        CHECK.due("phase behind it", done.phase(), 6);
    }

    private static void secondCopiesRefused() {
        RescueDesk desk = Desks.of(4);
        CHECK.badState("second before begin", () -> desk.second(0, 1));
        CHECK.badArgument("second of no sector before begin", () -> desk.second(4, 1));
        desk.begin(0);
        CHECK.badArgument("second(4, 1) of 4", () -> desk.second(4, 1));
        for (int s : FAR) {
            CHECK.badArgument("second(" + s + ", 1)", () -> desk.second(s, 1));
        }
        desk.stop(0);
        CHECK.badState("second when stopped", () -> desk.second(0, 1));
        CHECK.badArgument("second of no sector when stopped", () -> desk.second(-1, 1));
        CHECK.due("nothing came out", desk.out(0), 0);
    }

    private static void states() {
        RescueDesk desk = Desks.withMap("40312", 0);
        int[] want = {4, 0, 3, 1, 2};
        for (int s = 0; s < 5; s++) {
            CHECK.due("state(" + s + ")", desk.state(s), want[s]);
        }
        CHECK.due("state(5)", desk.state(5), RescueDesk.NONE);
        for (int s : FAR) {
            CHECK.due("state(" + s + ")", desk.state(s), RescueDesk.NONE);
        }
        desk.stop(140);
        CHECK.due("state when stopped", desk.state(0), RescueDesk.NONE);
        desk.resume();
        CHECK.due("state behind resume", desk.state(0), 4);
        desk.source(5);
        CHECK.due("state before begin", desk.state(0), RescueDesk.NONE);
    }

    private static void counts() {
        RescueDesk desk = Desks.withMap("012223344443301", 0);
        int[] want = {2, 2, 3, 4, 4};
        for (int state = 0; state < 5; state++) {
            CHECK.due("count(" + state + ")", desk.count(state), want[state]);
        }
        CHECK.due("count(5)", desk.count(5), 0);
        for (int state : FAR) {
            CHECK.due("count(" + state + ")", desk.count(state), 0);
        }
        desk.stop(140);
        CHECK.due("count when stopped", desk.count(4), 0);
        desk.source(15);
        CHECK.due("count before begin", desk.count(0), 0);
        CHECK.due("count of NONE before begin", desk.count(RescueDesk.NONE), 0);
    }

    private static void parts() {
        RescueDesk desk = Desks.withMap("44400031", 0);
        int[][] want = {{0, 3, 4}, {3, 3, 0}, {6, 1, 3}, {7, 1, 1}};
        for (int i = 0; i < want.length; i++) {
            for (int what = 0; what < 3; what++) {
                CHECK.due("part(" + i + ", " + what + ")", desk.part(i, what), want[i][what]);
            }
            for (int what : new int[] {Integer.MIN_VALUE, -1, 3, Integer.MAX_VALUE}) {
                CHECK.due("part(" + i + ", " + what + ")", desk.part(i, what), RescueDesk.NONE);
            }
        }
        for (int what = 0; what < 3; what++) {
            CHECK.due("part(4, " + what + ")", desk.part(4, what), RescueDesk.NONE);
            for (int i : FAR) {
                CHECK.due("part(" + i + ", " + what + ")", desk.part(i, what), RescueDesk.NONE);
            }
        }
        desk.stop(140);
        CHECK.due("part when stopped", desk.part(0, 0), RescueDesk.NONE);
        desk.source(8);
        CHECK.due("part before begin", desk.part(0, 0), RescueDesk.NONE);
        RescueDesk many = Desks.withMap("04".repeat(32), 0);
        CHECK.due("the 64th run", many.part(63, 0), 63);
        CHECK.due("no 65th run", many.part(64, 0), RescueDesk.NONE);
    }

    private static void partsFallTogether() {
        RescueDesk desk = Desks.withMap("44344", 0);
        CHECK.due("runs before", desk.part(2, 1), 2);
        desk.second(2, 9);
        CHECK.due("the only run", desk.part(0, 1), 5);
        CHECK.due("no other run", desk.part(1, 1), RescueDesk.NONE);
    }

    private static void phases() {
        RescueDesk desk = new RescueDesk();
        CHECK.due("phase of a new object", desk.phase(), RescueDesk.NONE);
        desk.source(12);
        CHECK.due("phase before begin", desk.phase(), RescueDesk.NONE);
        desk.begin(1);
        CHECK.due("phase when begun", desk.phase(), 0);
        desk.stop(0);
        CHECK.due("phase when stopped", desk.phase(), 7);
        desk.resume();
        CHECK.due("phase when resumed", desk.phase(), 0);
        desk.run(2);
        CHECK.due("phase behind the last read", desk.phase(), 0);
        desk.step();
        CHECK.due("phase when done", desk.phase(), 6);
        RescueDesk each = Desks.blank(64, 0, 16, 40, 60, 33, 3);
        each.begin(1);
        StringBuilder seen = new StringBuilder();
        for (int i = 0; i < 80 && each.step() != 6; i++) {
            char phase = (char) ('0' + each.phase());
            if (seen.length() == 0 || seen.charAt(seen.length() - 1) != phase) {
                seen.append(phase);
            }
        }
        CHECK.due("the phases of a copying", seen.toString(), "012345");
    }

    private static void wordsOut() {
        RescueDesk desk = Desks.of(9);
        CHECK.due("out before begin", desk.out(0), 0);
        desk.begin(0);
        desk.step();
        CHECK.due("out of what is read", desk.out(7), 107);
        CHECK.due("out of what is not yet", desk.out(8), 0);
        desk.step();
        CHECK.due("out of the last", desk.out(8), 108);
        CHECK.due("out(9)", desk.out(9), 0);
        for (int s : FAR) {
            CHECK.due("out(" + s + ")", desk.out(s), 0);
        }
        desk.stop(0);
        CHECK.due("out when stopped", desk.out(8), 108);
    }
}
