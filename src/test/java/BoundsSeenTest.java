import java.util.function.Supplier;

/** Promises 19 to 24, sentence by sentence: saw, which, look, hears, laws, forget. */
public final class BoundsSeenTest extends Bounds {
    private static final Supplier<ThoughtBalloon> BUSY = () -> {
        ThoughtBalloon b = at("w1 4;p3 9 1;p2 2 0;p0 1 1;t4 0;t9 2;t3 0;t30 0;", 1);
        b.begins(0, 1);
        b.minutes(2);
        b.saw(0, 1, 3);
        b.hears(1, 10);
        b.keep(0);
        return b;
    };
    private static final Supplier<ThoughtBalloon> SIX_SEEN = () -> seen(Check.told("p3 9 1;p2 2 0;t4 0;"), 6);
    private static final Supplier<ThoughtBalloon> SIX_HEARD = () -> heard(6);

    public static void main(String[] args) throws Exception {
        new BoundsSeenTest().run();
    }

    private static ThoughtBalloon seen(ThoughtBalloon b, int times) {
        for (int i = 0; i < times; i++) {
            b.saw(i % 2, 1, 1);
        }
        return b;
    }

    private static ThoughtBalloon heard(int times) {
        ThoughtBalloon b = Check.told("p3 9 1;t4 0;");
        for (int i = 0; i < times; i++) {
            b.hears(0, 7);
        }
        return b;
    }

    // ---- promise 19

    @Says(promise = 19, words = "SEEN: how much there is. BAD; FULL.")
    void sawRefused() {
        bounds(BUSY, BAD, 0, 0, 2, "saw", 0, 1, 1);
        bounds(() -> Check.told("p1 1 0;"), BAD, 0, 0, 0, "saw", 0, 1, 1);
        bounds(BUSY, BAD, 2, 0, 9, "saw", 0, 1, 1);
        refused(SIX_SEEN, FULL, "saw", 1, 9, 9);
        refused(SIX_SEEN, BAD, "saw", 2, 1, 1);
        refused(SIX_SEEN, BAD, "saw", 0, 10, 1);
        refused(SIX_SEEN, BAD, "saw", 0, 1, 10);
    }

    @Says(promise = 19, words = "SEEN (6 at most)")
    void sawSix() {
        ThoughtBalloon b = Check.told("p3 9 1;p2 2 0;t4 0;");
        for (int i = 1; i <= 6; i++) {
            due(b, i, "saw", i % 2, i, 0);
        }
        due(b, FULL, "saw", 0, 7, 0);
        due(b, FULL, "saw", 1, 7, 0);
        due(b, 6, "count", 3);
        b.forget();
        due(b, 1, "saw", 0, 7, 0);
    }

    @Says(promise = 19, words = "the HEIGHT was h m (1 .. 9) minutes later, nothing else being done")
    void sawMinutes() {
        bounds(BUSY, BAD, 1, 1, 9, "saw", 0, 1, 1);
        ThoughtBalloon b = Check.told("p0 9 1;p0 8 1;t1 0;");
        due(b, 1, "saw", 0, 9, 9);
        due(b, 2, "saw", 1, 9, 8);
        due(b, 3, "saw", 0, 1, 0);
    }

    // ---- promise 20

    @Says(promise = 20, words = "WHICH, as bits. BAD.")
    void whichRefused() {
        bounds(BUSY, BAD, 0, 0, 2, "which", 0);
        refused(ThoughtBalloon::new, BAD, "which", 0);
        due(Check.told("p0 9 1;"), 0, "which", 0);
        due(Check.told("p0 9 1;t1 0;"), 1, "which", 0);
        due(Check.told("p0 9 1;t1 0;t1 0;t1 0;t1 0;"), 15, "which", 0);
    }

    @Says(promise = 20, words = "WHICH for a PERSON: THOUGHTS (bits) by which all that was SEEN of him is so.")
    void whichAllThatWasSeen() {
        ThoughtBalloon b = Check.told("p3 9 1;p3 9 1;t7 0;t6 0;t8 1;t30 5;");
        due(b, 15, "which", 0);
        b.saw(0, 1, 1);
        due(b, 13, "which", 0);
        due(b, 15, "which", 1);
        b.saw(0, 2, 1);
        due(b, 4, "which", 0);
        b.saw(0, 3, 0);
        due(b, 4, "which", 0);
        b.saw(0, 9, 1);
        due(b, 0, "which", 0);
        due(b, 15, "which", 1);
        b.saw(1, 1, 0);
        due(b, 2, "which", 1);
    }

    @Says(promise = 20, words = "the HEIGHT was h m (1 .. 9) minutes later, nothing else being done")
    void whichAtTheEnds() {
        fits("p1 9 1;t30 0;", 1, 1, 1);
        fits("p1 9 1;t30 0;", 1, 0, 0);
        fits("p1 9 1;t30 0;", 9, 9, 1);
        fits("p1 8 1;t30 0;", 9, 9, 0);
        fits("p1 8 1;t30 0;", 9, 7, 1);
        fits("p1 8 1;t30 0;", 8, 8, 1);
        fits("p1 1 1;t1 0;", 9, 0, 1);
        ThoughtBalloon b = at("p0 9 1;t1 0;", 99);
        b.saw(0, 9, 9);
        due(b, 1, "which", 0);
    }

    private void fits(String text, int m, int h, int want) {
        ThoughtBalloon b = Check.told(text);
        b.saw(0, m, h);
        due(b, want, "which", 0);
    }

    @Says(promise = 20, words = "BEGUN NOW by a told PERSON (who need not be IN, it may be USED by him)")
    void whichNeedNotBeInNorUnused() {
        ThoughtBalloon b = Check.told("p9 9 0;t1 0;");
        b.saw(0, 1, 1);
        due(b, 1, "which", 0);
        b = Check.told("p1 9 1;t5 0;");
        b.begins(0, 0);
        b.minutes(2);
        b.saw(0, 1, 3);
        due(b, 1, "which", 0);
        b.minutes(7);
        b.forget();
        b.saw(0, 9, 9);
        due(b, 1, "which", 0);
    }

    @Says(promise = 20, words = "(WEIGHTS as IN NOW)")
    void whichWeighs() {
        ThoughtBalloon b = Check.told("p2 9 1;p3 9 0;t5 0;t6 0;");
        b.saw(1, 1, 1);
        due(b, 3, "which", 1);
        b.enters(1);
        due(b, 2, "which", 1);
        b.leaves(0);
        due(b, 3, "which", 1);
    }

    @Says(promise = 20, words = "(a LOST car stays where it is, does not rise or fall)")
    void whichOfALostCar() {
        ThoughtBalloon b = Check.told("w2 6;p1 9 1;t9 0;t1 0;x38;");
        b.begins(0, 0);
        b.minutes(2);
        b.saw(0, 9, 2);
        due(b, 3, "which", 0);
        b = Check.told("w2 6;p1 9 1;t9 0;t1 0;x37;");
        b.saw(0, 3, 3);
        due(b, 1, "which", 0);
        b = Check.told("w2 6;p1 9 1;t9 0;t1 0;x38;");
        b.saw(0, 3, 2);
        due(b, 1, "which", 0);
    }

    // ---- promise 21

    @Says(promise = 21, words = "LOOK; NONE. BAD.")
    void lookRefused() {
        bounds(BUSY, BAD, 0, 0, 2, "look", 0);
        refused(ThoughtBalloon::new, BAD, "look", 0);
        due(Check.told("p0 9 1;"), NONE, "look", 0);
    }

    @Says(promise = 21, words = "LOOK for a PERSON: the m (1 .. 9) at which the greatest number of these by which the "
            + "HEIGHT is alike is least, of like ones the least")
    void lookOneToNine() {
        due(Check.told("p0 9 1;t1 0;"), 1, "look", 0);
        due(Check.told("p0 9 1;t1 0;t2 0;"), 1, "look", 0);
        due(Check.told("p1 9 1;t1 0;t2 0;"), 1, "look", 0);
        due(Check.told("p3 9 1;t30 0;t5 1;"), 2, "look", 0);
        due(Check.told("p3 9 1;t8 4;t3 0;"), 1, "look", 0);
        due(Check.told("p3 9 1;t30 0;t11 1;"), 8, "look", 0);
        due(Check.told("p3 9 1;t30 0;t12 1;"), 9, "look", 0);
        due(Check.told("p3 9 1;t30 0;t13 1;"), 1, "look", 0);
        due(Check.told("p3 2 1;t30 0;t12 1;"), 1, "look", 0);
        due(Check.told("p3 9 1;t30 0;t3 0;t12 1;"), 9, "look", 0);
        due(Check.told("p3 9 1;t30 0;t30 0;t3 0;t12 1;"), 9, "look", 0);
        due(Check.told("p3 9 1;t30 0;t30 0;t3 0;t3 0;"), 1, "look", 0);
        due(Check.told("p3 9 1;t30 0;t30 0;t30 0;t12 1;"), 9, "look", 0);
    }

    @Says(promise = 21, words = "NONE (none of them).")
    void lookNoneOfThem() {
        ThoughtBalloon b = Check.told("p3 9 1;p3 9 0;t30 0;t12 1;");
        b.saw(0, 9, 8);
        due(b, 2, "which", 0);
        due(b, 1, "look", 0);
        b.saw(0, 9, 9);
        due(b, 0, "which", 0);
        due(b, NONE, "look", 0);
        due(b, 9, "look", 1);
    }

    // ---- promise 22

    @Says(promise = 22, words = "HEARD: how much there is. BAD; FULL.")
    void hearsRefused() {
        refused(SIX_HEARD, FULL, "hears", 9, 30);
        refused(SIX_HEARD, BAD, "hears", 10, 30);
        refused(SIX_HEARD, BAD, "hears", 9, 31);
        due(heard(5), 6, "hears", 0, 7);
    }

    @Says(promise = 22, words = "HEARD (6 at most)")
    void hearsSix() {
        ThoughtBalloon b = new ThoughtBalloon();
        for (int i = 1; i <= 6; i++) {
            due(b, i, "hears", i, i);
        }
        due(b, FULL, "hears", 0, 0);
        due(b, 6, "count", 4);
        b.forget();
        due(b, 1, "hears", 0, 0);
    }

    @Says(promise = 22, words = "an unknown THOUGHT had HOLD v (0 .. 30) m (0 .. 9) minutes behind its beginning")
    void hearsHoldAndMinute() {
        bounds(BUSY, BAD, 0, 0, 9, "hears", 1, 1);
        bounds(BUSY, BAD, 1, 0, 30, "hears", 1, 1);
    }

    // ---- promise 23

    @Says(promise = 23, words = "LAWS: how many (what = 0), the first (1; NONE). BAD.")
    void lawsRefused() {
        bounds(BUSY, BAD, 0, 0, 1, "laws", 0);
        laws(180, 10);
        laws(0, NONE, 0, 5, 0, 6);
        laws(0, NONE, 0, 0);
    }

    @Says(promise = 23, words = "LAWS: twos of LIFT (1 .. 30) and FADE (0 .. 5) by which all that was HEARD is so")
    void lawsOfLiftAndFade() {
        laws(6, 10, 0, 1);
        laws(6, 300, 0, 30);
        laws(1, 305, 0, 30, 1, 25);
        laws(0, NONE, 0, 30, 1, 24);
        laws(1, 300, 0, 30, 9, 30);
        laws(1, 300, 9, 30);
        laws(2, 200, 9, 20, 9, 20);
        laws(1, 200, 9, 20, 0, 20);
        laws(1, 291, 9, 20, 0, 29);
        laws(0, NONE, 9, 20, 0, 30);
    }

    @Says(promise = 23, words = "HOLD, m minutes behind that: LIFT less m times FADE, 0 at least")
    void lawsZeroAtLeast() {
        laws(15, 11, 1, 0);
        laws(5, 11, 0, 1, 1, 0);
        laws(1, 55, 0, 5, 1, 0);
        laws(0, NONE, 0, 6, 1, 0);
        laws(1, 65, 0, 6, 1, 1);
        laws(9 + 18 + 27 + 30 + 30, 11, 9, 0);
    }

    @Says(promise = 23, words = "(as long as BREATH lasts)")
    void lawsNeedNoBreath() {
        ThoughtBalloon b = Check.told("p9 1 1;t30 0;");
        b.hears(9, 30);
        due(b, 1, "laws", 0);
        due(b, 300, "laws", 1);
    }

    @Says(promise = 23, words = "how many; the first (10 times LIFT and FADE); NONE.")
    void lawsFirst() {
        laws(6, 70, 0, 7);
        laws(5, 71, 0, 7, 8, 0);
        laws(6, 20, 1, 2);
        laws(1, 75, 1, 2, 0, 7);
    }

    private void laws(int number, int first, int... minutesAndHolds) {
        ThoughtBalloon b = new ThoughtBalloon();
        for (int i = 0; i < minutesAndHolds.length; i += 2) {
            b.hears(minutesAndHolds[i], minutesAndHolds[i + 1]);
        }
        due(b, number, "laws", 0);
        due(b, first, "laws", 1);
    }

    // ---- promise 24

    @Says(promise = 24, words = "Nothing was SEEN, HEARD: how much both were.")
    void forgetBoth() {
        due(new ThoughtBalloon(), 0, "forget");
        due(SIX_SEEN.get(), 6, "forget");
        due(SIX_HEARD.get(), 6, "forget");
        ThoughtBalloon b = seen(heard(6), 1);
        due(b, 7, "forget");
        due(b, 0, "count", 3);
        due(b, 0, "count", 4);
        due(b, 0, "forget");
        b = SIX_SEEN.get();
        for (int i = 0; i < 6; i++) {
            b.hears(i, i);
        }
        due(b, 12, "forget");
        due(b, 1, "which", 0);
        due(b, 180, "laws", 0);
        alike("nothing else is forgotten", b, Check.told("p3 9 1;p2 2 0;t4 0;"));
        b = BUSY.get();
        due(b, 2, "forget");
        b.saw(0, 1, 3);
        b.hears(1, 10);
        alike("what is done is not", b, BUSY.get());
    }
}
