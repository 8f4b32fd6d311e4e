/** The boundary cases that the 'Terms' name of images, numbers and whole slots, sentence by sentence. */
public final class TermsOfSavingTest {
    private static final Check CHECK = new Check();

    public static void main(String[] args) {
        theImageOfAMap();
        theShortestAndTheLongestImage();
        theSumModulo251();
        theFirstSaveHasTheNumber1();
        theNumber0Behind199();
        numberKGoesToSlotKModulo2();
        whatIsBehindAnImageStays();
        wholeWithSuchANumber();
        wholeWithSoManyRuns();
        wholeWithSuchLengths();
        wholeWithSuchStates();
        wholeWithRunsAsLongAsCanBe();
        wholeWithSuchASum();
        wholeAtItsBeginning();
        wholeWithAllSectorsOfTheSource();
        wholeWithANumberOfTheOtherSlot();
        CHECK.end();
    }

    /** A desk of n sectors that is stopped, with both slots 0. */
    private static RescueDesk stopped(int n) {
        RescueDesk desk = Desks.blank(n);
        desk.begin(0);
        desk.stop(0);
        return desk;
    }

    /** A desk that has begun, with all of n sectors in that state, whose next save has the number behind this. */
    private static RescueDesk savedLastAs(int number, int n, int state) {
        RescueDesk desk = stopped(n);
        Desks.pokeImage(desk, 0, number, n, state);
        desk.resume();
        return desk;
    }

    private static int resumedWith(int n, int number, int... lengthsAndStates) {
        RescueDesk desk = stopped(n);
        Desks.pokeImage(desk, 1, number, lengthsAndStates);
        return desk.resume();
    }

    private static void whole(String what, int resumed) {
        CHECK.due("whole: " + what, resumed, 1);
    }

    private static void notWhole(String what, int resumed) {
        CHECK.due("not whole: " + what, resumed, RescueDesk.NONE);
    }

    private static void theImageOfAMap() {
        CHECK.about("THE IMAGE: the NUMBER of the save, how many runs it has, for each run its length and its state,"
                + " and the SUM: of all bytes before it, each times its place (from 1 on), modulo 251");
        RescueDesk desk = Desks.withMap("3340011", 0);
        desk.save();
        // 11 + 4*2 + 2*3 + 3*4 + 1*5 + 4*6 + 2*7 + 0*8 + 2*9 + 1*10 = 108
        CHECK.due("four runs", Desks.bytes(desk, 1, 12), "11 4 2 3 1 4 2 0 2 1 108 0");
    }

    private static void theShortestAndTheLongestImage() {
        CHECK.about("THE IMAGE: how many runs it has: one, and as many as sectors");
        RescueDesk desk = Desks.blank(1);
        desk.begin(0);
        desk.save();
        CHECK.due("of one sector", Desks.bytes(desk, 1, 6), "1 1 1 0 6 0");
        desk = savedLastAs(0, 64, 4);
        desk.save();
        CHECK.due("of one run of 64 sectors", Desks.bytes(desk, 1, 6), "1 1 64 4 211 0");
        desk = Desks.blankMap("01".repeat(32), 0);
        desk.save();
        CHECK.due("64 runs", desk.image(1, 1), 64);
        // 11 + 64*2 + the lengths' places 3, 5, .. 129 + the places 6, 10, .. 130 of the states that are 1
        int sum = 11 + 128 + (3 + 129) * 64 / 2 + (6 + 130) * 32 / 2;
        CHECK.due("the last run, the sum and what is behind", desk.image(1, 128) + " " + desk.image(1, 129) + " "
                + desk.image(1, 130) + " " + desk.image(1, 131), "1 1 " + sum % 251 + " 0");
    }

    private static void theSumModulo251() {
        CHECK.about("THE SUM: .. modulo 251");
        // With 64 sectors UNTRIED the bytes before the sum give the number + 1*2 + 64*3.
        int[][] numberAndSum = {{55, 249}, {56, 250}, {57, 0}, {58, 1}};
        for (int[] row : numberAndSum) {
            RescueDesk desk = savedLastAs(row[0] - 1, 64, 0);
            CHECK.due("its number", desk.save(), row[0]);
            CHECK.due("the sum with the number " + row[0], desk.image(row[0] % 2, 4), row[1]);
        }
        RescueDesk desk = Desks.blankMap("34".repeat(32), 0);
        desk.save();
        int sum = 11 + 128;
        for (int i = 0; i < 64; i++) {
            sum += 3 + 2 * i + (i % 2 == 0 ? 3 : 4) * (4 + 2 * i);
        }
        CHECK.due("a sum of many times 251", desk.image(1, 130), sum % 251);
    }

    private static void theFirstSaveHasTheNumber1() {
        CHECK.about("The first save has the number 1, each further one 1 more");
        RescueDesk desk = Desks.blank(2);
        desk.begin(0);
        CHECK.due("the first", desk.save(), 1);
        CHECK.due("the second", desk.save(), 2);
        CHECK.due("the third, in a stop", desk.stop(2), 3);
        desk.source(2);
        desk.begin(0);
        CHECK.due("the first of a new source", desk.stop(140), 1);
    }

    private static void theNumber0Behind199() {
        CHECK.about("0 behind 199");
        RescueDesk desk = savedLastAs(197, 1, 3);
        CHECK.due("behind 197", desk.save(), 198);
        CHECK.due("behind 198", desk.save(), 199);
        CHECK.due("behind 199", desk.save(), 0);
        CHECK.due("behind 0", desk.save(), 1);
        CHECK.due("the slots' numbers", desk.image(0, 0) * 1000 + desk.image(1, 0), 1);
        // All 200 of them, with no help of an image.
        desk = Desks.blank(1);
        desk.begin(0);
        for (int k = 1; k <= 401; k++) {
            CHECK.due("save " + k, desk.save(), k % 200);
        }
        desk = savedLastAs(199, 1, 3);
        CHECK.due("in a stop behind 199", desk.stop(140), 0);
        CHECK.due("it is a save", Desks.bytes(desk, 0, 5), "0 1 1 3 17");
    }

    private static void numberKGoesToSlotKModulo2() {
        CHECK.about("number k is written to SLOT k % 2, from place 0 on");
        for (int number : new int[] {1, 2, 99, 198, 199, 0}) {
            RescueDesk desk = savedLastAs((number + 199) % 200, 5, 2);
            int slot = number % 2;
            desk.poke(0, 0, 222);
            desk.poke(1, 0, 222);
            CHECK.due("its number", desk.save(), number);
            CHECK.due("slot of " + number, desk.image(slot, 0), number);
            CHECK.due("the other slot", desk.image(1 - slot, 0), 222);
        }
    }

    private static void whatIsBehindAnImageStays() {
        CHECK.about("what is behind it there stays");
        RescueDesk desk = Desks.withMap("343", 0);
        desk.save();
        // 11 + 3*2 + 1*3 + 3*4 + 1*5 + 4*6 + 1*7 + 3*8 = 92
        CHECK.due("a long image", Desks.bytes(desk, 1, 10), "11 3 1 3 1 4 1 3 92 0");
        desk.second(0, 1);
        desk.second(2, 1);
        desk.save();
        desk.save();
        // 13 + 1*2 + 3*3 + 4*4 = 40
        CHECK.due("a short one over it", Desks.bytes(desk, 1, 10), "13 1 3 4 40 4 1 3 92 0");
        for (int place = 0; place < 140; place++) {
            desk.poke(0, place, 77);
        }
        desk.save();
        CHECK.due("the last byte of it", desk.image(0, 4), 41);
        for (int place = 5; place < 140; place++) {
            CHECK.due("byte " + place + " behind it", desk.image(0, place), 77);
        }
    }

    private static void wholeWithSuchANumber() {
        CHECK.about("A slot is WHOLE if it has such an image: the NUMBER of the save, 0 .. 199");
        whole("number 0", resumedWith(3, 0, 3, 1));
        whole("number 199", resumedWith(3, 199, 3, 1));
        notWhole("number 200", resumedWith(3, 200, 3, 1));
        notWhole("number 201", resumedWith(3, 201, 3, 1));
        notWhole("number 255", resumedWith(3, 255, 3, 1));
    }

    private static void wholeWithSoManyRuns() {
        CHECK.about("A slot is WHOLE if it has such an image: how many runs it has");
        notWhole("no run", resumedWith(1, 1));
        notWhole("a slot that was never written", stopped(1).resume());
        whole("one run", resumedWith(1, 1, 1, 3));
        whole("as many as sectors", resumedWith(3, 1, 1, 3, 1, 4, 1, 3));
        notWhole("one more than sectors", resumedWith(3, 1, 1, 3, 1, 4, 1, 3, 0, 4));
        whole("64 runs", resumedWith(64, 1, Desks.runs("34".repeat(32))));
        notWhole("65 runs of 64 sectors", resumedWith(64, 1, Desks.runs("34".repeat(32) + "3")));
        for (int runs : new int[] {0, 1, 3, 4, 68, 69, 70, 255}) {
            RescueDesk desk = stopped(6);
            Desks.pokeImage(desk, 1, 1, 2, 4, 4, 0);
            desk.poke(1, 1, runs);
            // So that the sum fits, wherever it would be.
            int sum = 1 + runs * 2 + 2 * 3 + 4 * 4 + 4 * 5;
            for (int place = 6; place < 140; place++) {
                desk.poke(1, place, place == 2 + 2 * runs ? sum % 251 : 0);
            }
            notWhole("2 runs that are told as " + runs, desk.resume());
        }
    }

    private static void wholeWithSuchLengths() {
        CHECK.about("A slot is WHOLE if it has such an image, of all sectors of the source: each run's length");
        whole("1 and 5 of 6", resumedWith(6, 1, 1, 0, 5, 1));
        notWhole("one sector less", resumedWith(6, 1, 1, 0, 4, 1));
        notWhole("one sector more", resumedWith(6, 1, 1, 0, 6, 1));
        notWhole("a first run of no sector", resumedWith(6, 1, 0, 0, 6, 1));
        notWhole("a last run of no sector", resumedWith(6, 1, 6, 0, 0, 1));
        notWhole("a run of no sector between", resumedWith(6, 1, 3, 0, 0, 1, 3, 2));
        notWhole("256 sectors more", resumedWith(6, 1, 255, 0, 7, 1));
        notWhole("one that goes over 64", resumedWith(64, 1, 64, 0, 1, 1));
        notWhole("all before the last", resumedWith(3, 1, 1, 0, 2, 1, 1, 2));
    }

    private static void wholeWithSuchStates() {
        CHECK.about("A slot is WHOLE if it has such an image: each run's state");
        for (int state = 0; state <= 4; state++) {
            whole("state " + state, resumedWith(6, 1, 6, state));
        }
        for (int state : new int[] {5, 6, 7, 128, 255}) {
            notWhole("state " + state, resumedWith(6, 1, 6, state));
            notWhole("a last state " + state, resumedWith(6, 1, 3, 1, 3, state));
        }
    }

    private static void wholeWithRunsAsLongAsCanBe() {
        CHECK.about("A slot is WHOLE .. with runs as said: as long as can be");
        whole("two states", resumedWith(6, 1, 2, 0, 4, 1));
        notWhole("one state in two runs", resumedWith(6, 1, 2, 0, 4, 0));
        notWhole("the last two of three", resumedWith(6, 1, 2, 4, 2, 3, 2, 3));
        notWhole("the first two of three", resumedWith(6, 1, 2, 3, 2, 3, 2, 4));
        whole("the same state behind another", resumedWith(6, 1, 2, 3, 2, 4, 2, 3));
    }

    private static void wholeWithSuchASum() {
        CHECK.about("A slot is WHOLE if it has such an image: the SUM");
        // The number + 1*2 + 64*3: sums of 250, 251 (so 0), 252 (so 1) and 255 (so 4).
        for (int number : new int[] {56, 57, 58, 61}) {
            int sum = (number + 194) % 251;
            for (int told = 0; told < 256; told++) {
                RescueDesk desk = stopped(64);
                Desks.pokeImage(desk, 1, number, 64, 0);
                desk.poke(1, 4, told);
                CHECK.due("the sum of " + number + " told as " + told, desk.resume(), told == sum ? 1 : -1);
            }
        }
        for (int place = 0; place < 5; place++) {
            for (int less = 0; less < 2; less++) {
                RescueDesk desk = stopped(6);
                Desks.pokeImage(desk, 1, 50, 6, 2);
                desk.poke(1, place, desk.image(1, place) + 1 - 2 * less);
                notWhole("byte " + place + (less == 1 ? " one less" : " one more"), desk.resume());
            }
        }
    }

    private static void wholeAtItsBeginning() {
        CHECK.about("A slot is WHOLE if it has such an image at its beginning");
        RescueDesk desk = stopped(6);
        for (int place = 0; place < 140; place++) {
            desk.poke(1, place, 255);
        }
        Desks.pokeImage(desk, 1, 50, 6, 2);
        whole("with anything behind it", desk.resume());
        desk = stopped(6);
        int[] image = {50, 1, 6, 2, (50 + 2 + 18 + 8) % 251};
        for (int i = 0; i < image.length; i++) {
            desk.poke(1, 1 + i, image[i]);
        }
        notWhole("one place behind the beginning", desk.resume());
    }

    private static void wholeWithAllSectorsOfTheSource() {
        CHECK.about("A slot is WHOLE if it has .. an image .. of all sectors of the source");
        for (int n : new int[] {1, 2, 63, 64}) {
            whole(n + " of " + n, resumedWith(n, 1, n, 3));
            notWhole((n + 1) + " of " + n, resumedWith(n, 1, n + 1, 3));
            notWhole((n - 1) + " of " + n, resumedWith(n, 1, n - 1, 3));
        }
    }

    private static void wholeWithANumberOfTheOtherSlot() {
        CHECK.about("A slot is WHOLE .. (also if its number is one of the other slot)");
        for (int slot = 0; slot < 2; slot++) {
            for (int number : new int[] {0, 1, 2, 198, 199}) {
                RescueDesk desk = stopped(6);
                Desks.pokeImage(desk, slot, number, 6, 3);
                CHECK.due("slot " + slot + " with the number " + number, desk.resume(), slot);
                CHECK.due("the next save", desk.save(), (number + 1) % 200);
            }
        }
    }
}
