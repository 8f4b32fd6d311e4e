import java.util.ArrayDeque;
import java.util.ArrayList;
import java.util.Arrays;
import java.util.Deque;
import java.util.List;
import java.util.Random;
import java.util.regex.Matcher;
import java.util.regex.Pattern;

/** Long runs of calls, whose answers are compared with those of a second, slow form of the document's words. */
public final class ModelTest {
    private static final int RUNS = 20000;
    private static final int MOST_CALLS = 512;
    private static final int OVERVIEW_CALLS = 3 * 64 + 3 + 2 * 140;

    private int wrong;
    private final StringBuilder told = new StringBuilder();

    public static void main(String[] args) {
        Check.watch();
        ModelTest test = new ModelTest();
        for (int seed = 0; seed < RUNS && test.wrong == 0; seed++) {
            test.compare(new Random(seed), seed % 2 == 0);
        }
        System.out.println(RUNS + " runs of calls, " + test.wrong + " of them with a wrong answer");
        if (test.wrong != 0) {
            System.exit(1);
        }
    }

    private void compare(Random random, boolean overviewed) {
        RescueDesk desk = new RescueDesk();
        Model model = new Model();
        told.setLength(0);
        int calls = overviewed ? MOST_CALLS - OVERVIEW_CALLS : MOST_CALLS;
        Deque<int[]> planned = new ArrayDeque<>();
        for (int i = 0; i < calls && wrong == 0; i++) {
            if (planned.isEmpty() && model.phase == 7 && random.nextInt(4) == 0) {
                planImage(random, model, planned);
            }
            int[] next = planned.isEmpty() ? anyCall(random, model) : planned.remove();
            int call = next[0];
            int a = next[1];
            int b = next[2];
            int c = next[3];
            String got = answer(desk, call, a, b, c);
            told.append(NAMES[call]).append(' ').append(a).append(' ').append(b).append(' ').append(c)
                    .append(": ").append(got).append('\n');
            due(got, model.answer(call, a, b, c));
        }
        if (overviewed && wrong == 0) {
            due(overview(desk), model.overview());
        }
    }

    private void due(String got, String want) {
        if (!got.equals(want)) {
            wrong++;
            System.out.print(told);
            System.out.println("the last answer is " + got + "\ndue is " + want);
        }
    }

    private static final String[] NAMES = {"source", "sector", "begin", "step", "run", "save", "stop", "resume",
        "poke", "second", "state", "count", "part", "phase", "out", "reads", "made", "image"};
    private static final int RESUME = 7;
    private static final int POKE = 8;
    private static final int[] WEIGHTS = {1, 30, 4, 60, 15, 15, 6, 12, 20, 10, 15, 10, 20, 5, 15, 15, 5, 20};

    private static int[] anyCall(Random random, Model model) {
        int call = pick(random, model);
        int[] next = {call, 0, 0, 0};
        for (int which = 0; which < 3; which++) {
            next[which + 1] = argument(random, call, which, model);
        }
        return next;
    }

    /** Pokes of an image of many short runs, most often a whole one: single pokes would hardly ever make one. */
    private static void planImage(Random random, Model model, Deque<int[]> planned) {
        List<Integer> bytes = new ArrayList<>(List.of(random.nextInt(4) == 0 ? 199 : random.nextInt(203), 0));
        int left = model.size;
        int before = -1;
        while (left > 0) {
            int length = Math.min(left, 1 + random.nextInt(random.nextInt(3) == 0 ? 30 : 4));
            int state = random.nextInt(2) == 0 ? 0 : random.nextInt(5);
            state = state == before && random.nextInt(40) > 0 ? (state + 1) % 5 : state;
            bytes.add(random.nextInt(200) == 0 ? 0 : length);
            bytes.add(random.nextInt(200) == 0 ? 5 : state);
            left -= length;
            before = state;
        }
        bytes.set(1, bytes.size() / 2 - 1);
        int sum = 0;
        for (int place = 0; place < bytes.size(); place++) {
            sum += bytes.get(place) * (place + 1);
        }
        bytes.add(sum % 251);
        int slot = random.nextInt(2);
        for (int place = 0; place < bytes.size(); place++) {
            planned.add(new int[] {POKE, slot, place, bytes.get(place)});
        }
        if (random.nextInt(3) > 0) {
            planned.add(new int[] {RESUME, 0, 0, 0});
        }
    }

    private static int pick(Random random, Model model) {
        if (model.size == 0 && random.nextInt(3) > 0) {
            return 0;
        }
        if (model.phase == -1 && model.size > 0 && random.nextInt(12) == 0) {
            return 2;
        }
        int left = random.nextInt(Arrays.stream(WEIGHTS).sum());
        int call = 0;
        while (left >= WEIGHTS[call]) {
            left -= WEIGHTS[call];
            call++;
        }
        return call;
    }

    private static int argument(Random random, int call, int which, Model model) {
        if (random.nextInt(60) == 0) {
            int[] odd = {Integer.MIN_VALUE, -2, -1, 0, 5, 6, 9, 10, 64, 65, 139, 140, 255, 256, 300, 301,
                Integer.MAX_VALUE};
            return odd[random.nextInt(odd.length)];
        }
        int sector = random.nextInt(Math.max(1, model.size));
        switch (NAMES[call]) {
            case "source":
                return 1 + random.nextInt(64);
            case "sector":
                return which == 0 ? sector : which == 1 ? random.nextInt() : random.nextInt(3) == 0 ? -1 : random.nextInt(5);
            case "begin":
                return random.nextInt(6);
            case "run":
                return random.nextInt(random.nextInt(4) == 0 ? 300 : 6);
            case "stop":
                return random.nextInt(random.nextInt(2) == 0 ? 12 : 140);
            case "poke":
                return poked(random, which);
            case "second":
                return which == 0 ? sector : random.nextInt();
            case "part":
                return which == 0 ? random.nextInt(12) : random.nextInt(4);
            case "count":
                return random.nextInt(6);
            case "image":
                return which == 0 ? random.nextInt(2) : random.nextInt(140);
            default:
                return sector;
        }
    }

    private static int poked(Random random, int which) {
        if (which == 0) {
            return random.nextInt(2);
        }
        return random.nextInt(which == 1 ? random.nextInt(3) == 0 ? 140 : 8 : random.nextInt(2) == 0 ? 256 : 5);
    }

    private static String answer(RescueDesk desk, int call, int a, int b, int c) {
        try {
            switch (NAMES[call]) {
                case "source": desk.source(a); return "";
                case "sector": desk.sector(a, b, c); return "";
                case "begin": desk.begin(a); return "";
                case "step": return "" + desk.step();
                case "run": return "" + desk.run(a);
                case "save": return "" + desk.save();
                case "stop": return "" + desk.stop(a);
                case "resume": return "" + desk.resume();
                case "poke": desk.poke(a, b, c); return "";
                case "second": return "" + desk.second(a, b);
                case "state": return "" + desk.state(a);
                case "count": return "" + desk.count(a);
                case "part": return "" + desk.part(a, b);
                case "phase": return "" + desk.phase();
                case "out": return "" + desk.out(a);
                case "reads": return "" + desk.reads(a);
                case "made": return "" + desk.made(a % 2 != 0);
                default: return "" + desk.image(a, b);
            }
        } catch (RuntimeException e) {
            return e.getClass().getSimpleName();
        }
    }

    private static String overview(RescueDesk desk) {
        StringBuilder seen = new StringBuilder();
        for (int s = 0; s < 64; s++) {
            seen.append(desk.state(s)).append(' ').append(desk.out(s)).append(' ').append(desk.reads(s)).append(';');
        }
        seen.append(desk.phase()).append(' ').append(desk.made(false)).append(' ').append(desk.made(true));
        for (int slot = 0; slot < 2; slot++) {
            for (int place = 0; place < 140; place++) {
                seen.append(' ').append(desk.image(slot, place));
            }
        }
        return seen.toString();
    }

    /** The document once more: the map is a text of digits, and its stretches are found by patterns. */
    private static final class Model {
        int size;
        int phase = -1;
        private int[] words = new int[0];
        private int[] failures = new int[0];
        private int[] reads = new int[0];
        private int[] target = new int[0];
        private final int[][] slots = new int[2][140];
        private String map = "";
        private int number;
        private int made;
        private int failed;
        private int retries;
        private int p;
        private int leap;
        private int round;
        private boolean last;

        String answer(int call, int a, int b, int c) {
            boolean going = phase >= 0 && phase <= 6;
            boolean there = a >= 0 && a < size;
            boolean place = (a == 0 || a == 1) && b >= 0 && b < 140;
            String argument = "IllegalArgumentException";
            String state = "IllegalStateException";
            switch (NAMES[call]) {
                case "source": return a < 1 || a > 64 ? argument : source(a);
                case "sector": return !there || c < -1 || c > 9 ? argument : sector(a, b, c);
                case "begin": return a < 0 || a > 5 ? argument : size == 0 || phase != -1 ? state : begin(a);
                case "step": return !going ? state : "" + step();
                case "run": return a < 0 || a > 300 ? argument : !going ? state : run(a);
                case "save": return !going ? state : "" + save(140);
                case "stop": return a < 0 ? argument : !going ? state : stop(a);
                case "resume": return phase != 7 ? state : resume();
                case "poke": return !place || c < 0 || c > 255 ? argument : poke(a, b, c);
                case "second": return !there ? argument : !going ? state : second(a, b);
                case "state": return !there || !going ? "-1" : map.substring(a, a + 1);
                case "count": return !going ? "0" : "" + map.chars().filter(x -> x - '0' == a).count();
                case "part": return !going ? "-1" : part(a, b);
                case "phase": return "" + phase;
                case "out": return there ? "" + target[a] : "0";
                case "reads": return there ? "" + reads[a] : "0";
                case "made": return "" + (a % 2 != 0 ? failed : made);
                default: return place ? "" + slots[a][b] : "-1";
            }
        }

        String overview() {
            StringBuilder seen = new StringBuilder();
            for (int s = 0; s < 64; s++) {
                boolean mapped = s < size && phase >= 0 && phase <= 6;
                seen.append(mapped ? map.substring(s, s + 1) : "-1").append(' ');
                seen.append(s < size ? target[s] : 0).append(' ').append(s < size ? reads[s] : 0).append(';');
            }
            seen.append(phase).append(' ').append(made).append(' ').append(failed);
            for (int[] slot : slots) {
                for (int v : slot) {
                    seen.append(' ').append(v);
                }
            }
            return seen.toString();
        }

        private String source(int n) {
            size = n;
            words = new int[n];
            failures = new int[n];
            reads = new int[n];
            target = new int[n];
            slots[0] = new int[140];
            slots[1] = new int[140];
            phase = -1;
            number = 0;
            made = 0;
            failed = 0;
            return "";
        }

        private String sector(int s, int word, int f) {
            words[s] = word;
            failures[s] = f;
            return "";
        }

        private String begin(int r) {
            retries = r;
            map = "0".repeat(size);
            phaseBegins(0);
            return "";
        }

        private void phaseBegins(int which) {
            phase = which;
            if (phase == 0 || phase == 2) {
                p = 0;
            }
            if (phase == 1) {
                p = size;
            }
            if (phase <= 1) {
                leap = 8;
            }
            if (phase == 3) {
                last = false;
            }
            if (phase == 5) {
                round = 0;
                p = 0;
            }
        }

        private int step() {
            int[] stretch = null;
            while (phase != 6 && (stretch = stretchToRead()) == null) {
                phaseBegins(phase + 1);
            }
            if (phase == 6) {
                return 6;
            }
            int first = stretch[0];
            int behind = stretch[1];
            int length = behind - first;
            boolean done = read(first, behind);
            String runBefore = map;
            paint(first, behind, done ? 4 : phase <= 2 ? 1 : 3);
            if (phase == 0) {
                p = done ? behind : behind + leap;
                leap = done ? 8 : Math.min(32, leap * 2);
            } else if (phase == 1) {
                p = done ? first : first - leap;
                leap = done ? 8 : Math.min(32, leap * 2);
            } else if (phase == 2) {
                p = first + length;
            } else if (phase == 3) {
                trimmed(first, done, runBefore);
            } else if (phase == 5) {
                p = round % 2 == 0 ? first + 1 : first;
            }
            return phase;
        }

        private void trimmed(int s, boolean done, String before) {
            Matcher run = Pattern.compile("1+").matcher(before);
            run.find();
            if (run.group().length() == 1) {
                last = false;
            } else if (!done && last) {
                paint(run.start(), s, 2);
                last = false;
            } else if (!done) {
                last = true;
            }
        }

        private int[] stretchToRead() {
            switch (phase) {
                case 0:
                case 2: return find("0{1,8}", p, size, false);
                case 1: {
                    int[] all = find("0+", 0, Math.max(0, p), true);
                    return all == null ? null : new int[] {Math.max(all[0], all[1] - 8), all[1]};
                }
                case 3: {
                    int[] run = find("1+", 0, size, false);
                    return run == null ? null : last ? new int[] {run[1] - 1, run[1]} : new int[] {run[0], run[0] + 1};
                }
                case 4: return find("2", 0, size, false);
                default: return retried();
            }
        }

        private int[] retried() {
            while (round != retries && map.indexOf('3') >= 0) {
                int[] bad = round % 2 == 0 ? find("3", p, size, false) : find("3", 0, p, true);
                if (bad != null) {
                    return bad;
                }
                round++;
                p = round % 2 == 0 ? 0 : size;
            }
            return null;
        }

        private int[] find(String pattern, int from, int to, boolean theLast) {
            int[] found = null;
            Matcher matcher = Pattern.compile(pattern).matcher(map);
            if (from > to) {
                return null;
            }
            matcher.region(from, to);
            while (matcher.find()) {
                found = new int[] {matcher.start(), matcher.end()};
                if (!theLast) {
                    return found;
                }
            }
            return found;
        }

        private boolean read(int first, int behind) {
            made++;
            for (int s = first; s < behind; s++) {
                reads[s]++;
                if (failures[s] != 0) {
                    failures[s] = failures[s] == -1 ? -1 : failures[s] - 1;
                    failed++;
                    return false;
                }
            }
            for (int s = first; s < behind; s++) {
                target[s] = words[s];
            }
            return true;
        }

        private void paint(int first, int behind, int state) {
            map = map.substring(0, first) + ("" + state).repeat(behind - first) + map.substring(behind);
        }

        private String run(int n) {
            int before = made;
            for (int i = 0; i < n; i++) {
                step();
            }
            return "" + (made - before);
        }

        private List<int[]> runs() {
            List<int[]> runs = new ArrayList<>();
            Matcher matcher = Pattern.compile("(.)\\1*").matcher(map);
            while (matcher.find()) {
                runs.add(new int[] {matcher.start(), matcher.end() - matcher.start(), matcher.group().charAt(0) - '0'});
            }
            return runs;
        }

        private List<Integer> drawn(int k) {
            List<Integer> bytes = new ArrayList<>(List.of(k, runs().size()));
            for (int[] run : runs()) {
                bytes.add(run[1]);
                bytes.add(run[2]);
            }
            int sum = 0;
            for (int i = 1; i <= bytes.size(); i++) {
                sum += i * bytes.get(i - 1);
            }
            bytes.add(sum % 251);
            return bytes;
        }

        private int save(int keep) {
            number = number == 199 ? 0 : number + 1;
            List<Integer> bytes = drawn(number);
            for (int i = 0; i < keep && i < bytes.size(); i++) {
                slots[number % 2][i] = bytes.get(i);
            }
            return number;
        }

        private String stop(int keep) {
            int k = keep == 0 ? 0 : save(keep);
            phase = 7;
            return "" + k;
        }

        /** The map that a slot tells, null if it is not whole: one that is drawn again to the same bytes. */
        private String told(int[] slot) {
            StringBuilder states = new StringBuilder();
            for (int i = 0; i < slot[1] && 3 + 2 * i < 140 && states.length() <= 64; i++) {
                states.append(("" + slot[3 + 2 * i]).repeat(slot[2 + 2 * i]));
            }
            String read = states.toString();
            if (slot[0] > 199 || read.length() != size || !read.matches("[0-4]*")) {
                return null;
            }
            String kept = map;
            map = read;
            List<Integer> bytes = drawn(slot[0]);
            map = kept;
            for (int i = 0; i < bytes.size(); i++) {
                if (slot[i] != bytes.get(i)) {
                    return null;
                }
            }
            return read;
        }

        private String resume() {
            String zero = told(slots[0]);
            String one = told(slots[1]);
            int slot = zero != null ? 0 : one != null ? 1 : -1;
            if (zero != null && one != null && slots[1][0] == (slots[0][0] + 1) % 200) {
                slot = 1;
            }
            map = slot == 0 ? zero : slot == 1 ? one : "0".repeat(size);
            number = slot == -1 ? 0 : slots[slot][0];
            phaseBegins(0);
            return "" + slot;
        }

        private String poke(int slot, int place, int v) {
            slots[slot][place] = v;
            return "";
        }

        private String second(int s, int word) {
            boolean bad = map.charAt(s) == '3';
            if (bad) {
                target[s] = word;
                paint(s, s + 1, 4);
            }
            return "" + bad;
        }

        private String part(int i, int what) {
            boolean there = i >= 0 && i < runs().size() && what >= 0 && what <= 2;
            return there ? "" + runs().get(i)[what] : "-1";
        }
    }
}
