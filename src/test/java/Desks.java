import java.util.Arrays;

/** What several tests do with a desk; sparing with calls, as an object is promised for 512 of them. */
final class Desks {
    private Desks() {
    }

    /** A desk with a source of n sectors, all words 0; the failing ones always fail. */
    static RescueDesk blank(int n, int... failing) {
        RescueDesk desk = new RescueDesk();
        desk.source(n);
        for (int s : failing) {
            desk.sector(s, 0, -1);
        }
        return desk;
    }

    /** A desk with a source of n sectors, sector s having the word 100 + s; the failing ones always fail. */
    static RescueDesk of(int n, int... failing) {
        RescueDesk desk = blank(n);
        for (int s = 0; s < n; s++) {
            desk.sector(s, 100 + s, 0);
        }
        for (int s : failing) {
            desk.sector(s, 100 + s, -1);
        }
        return desk;
    }

    /** A desk that has begun, with the map that these digits tell. */
    static RescueDesk withMap(String states, int retries, int... failing) {
        return begun(of(states.length(), failing), states, retries);
    }

    /** The same with all words 0, for long maps. */
    static RescueDesk blankMap(String states, int retries, int... failing) {
        return begun(blank(states.length(), failing), states, retries);
    }

    private static RescueDesk begun(RescueDesk desk, String states, int retries) {
        desk.begin(retries);
        desk.stop(0);
        pokeImage(desk, 0, 10, runs(states));
        if (desk.resume() != 0) {
            throw new AssertionError("the map was not taken: " + states);
        }
        return desk;
    }

    /** Length and state of each run of a map told by digits. */
    static int[] runs(String states) {
        int[] all = new int[2 * states.length()];
        int used = 0;
        for (int s = 0; s < states.length(); s++) {
            int state = states.charAt(s) - '0';
            if (used > 0 && all[used - 1] == state) {
                all[used - 2]++;
            } else {
                all[used] = 1;
                all[used + 1] = state;
                used += 2;
            }
        }
        return Arrays.copyOf(all, used);
    }

    /** Pokes an image with the right sum, whatever its number and runs are. */
    static void pokeImage(RescueDesk desk, int slot, int number, int... lengthsAndStates) {
        int sum = number + 2 * (lengthsAndStates.length / 2);
        desk.poke(slot, 0, number);
        desk.poke(slot, 1, lengthsAndStates.length / 2);
        for (int i = 0; i < lengthsAndStates.length; i++) {
            desk.poke(slot, 2 + i, lengthsAndStates[i]);
            sum += lengthsAndStates[i] * (3 + i);
        }
        desk.poke(slot, 2 + lengthsAndStates.length, sum % 251);
    }

    /** The states of all sectors as digits; empty if copying isn't going on. */
    static String map(RescueDesk desk) {
        StringBuilder states = new StringBuilder();
        int state = desk.state(0);
        for (int s = 1; state != RescueDesk.NONE && s <= 65; s++) {
            states.append(state);
            state = desk.state(s);
        }
        return states.toString();
    }

    /** The reads that each of n sectors had, with blanks between. */
    static String reads(RescueDesk desk, int n) {
        StringBuilder reads = new StringBuilder();
        for (int s = 0; s < n; s++) {
            reads.append(s == 0 ? "" : " ").append(desk.reads(s));
        }
        return reads.toString();
    }

    /** The first bytes of a slot, with blanks between. */
    static String bytes(RescueDesk desk, int slot, int n) {
        StringBuilder bytes = new StringBuilder();
        for (int place = 0; place < n; place++) {
            bytes.append(place == 0 ? "" : " ").append(desk.image(slot, place));
        }
        return bytes.toString();
    }

    /** Steps told with blanks between, each as its phase and the sectors that it came to: "3:7 0:0-7 6". */
    static String steps(RescueDesk desk, int n, int howMany) {
        StringBuilder told = new StringBuilder();
        int[] before = readsOf(desk, n);
        for (int i = 0; i < howMany; i++) {
            told.append(i == 0 ? "" : " ").append(desk.step());
            int[] behind = readsOf(desk, n);
            told.append(difference(before, behind));
            before = behind;
        }
        return told.toString();
    }

    private static int[] readsOf(RescueDesk desk, int n) {
        int[] reads = new int[n];
        for (int s = 0; s < n; s++) {
            reads[s] = desk.reads(s);
        }
        return reads;
    }

    private static String difference(int[] before, int[] behind) {
        int first = -1;
        int last = -1;
        for (int s = 0; s < before.length; s++) {
            if (before[s] != behind[s]) {
                first = first < 0 ? s : first;
                last = s;
            }
        }
        return first < 0 ? "" : last == first ? ":" + first : ":" + first + "-" + last;
    }
}
