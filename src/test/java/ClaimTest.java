import java.util.NoSuchElementException;

/** Promises 5 (claim), 6 (rests), 7 (restsOn), 8 (ring) and 9 (lift). */
final class ClaimTest {
    private static final int[] NO_CLAIMS = {-1, 3, 24, Integer.MIN_VALUE, Integer.MAX_VALUE};

    public static void main(String[] args) {
        claimsAreNumbered();
        restsTellsWhetherThatWasNotSo();
        restsRefuses();
        restsOnAnswers();
        ringIsTold();
        ringOfOne();
        shortestRingIsTold();
        lowestRingIsTold();
        ringOverClaimZero();
        claimZeroMakesNoRing();
        longestRing();
        ringStaysUntilTheNext();
        restsOnRefuses();
        ringRefuses();
        liftTellsWhetherItDid();
        liftRefuses();
        Due.end();
    }

    private static void claimsAreNumbered() {
        ClaimSources x = new ClaimSources();
        for (int i = 0; i < 24; i++) {
            Due.due("5: claim number " + i, x.claim(), i);
        }
        Due.dueThrow("5: claim 24", IllegalStateException.class, x::claim);
        Due.due("5: there are 24", x.count(2), 24);
    }

    private static void restsTellsWhetherThatWasNotSo() {
        ClaimSources x = Make.with(24, 24);
        Due.due("6: not so at first", x.rests(1, 0, false), false);
        Due.due("6: on", x.rests(1, 0, true), true);
        Due.due("6: on again", x.rests(1, 0, true), false);
        Due.due("6: held", x.held(1, 0), true);
        Due.due("6: another source", x.rests(1, 23, true), true);
        Due.due("6: another claim", x.rests(23, 23, true), true);
        Due.due("6: off", x.rests(1, 0, false), true);
        Due.due("6: still held by the other", x.held(1, 0), true);
        Due.due("6: off again", x.rests(1, 0, false), false);
        Due.due("6: the other off", x.rests(1, 23, false), true);
        Due.due("6: not held", x.held(1, 0), false);
        Due.due("6: the other claim is held", x.held(23, 0), true);
        Due.due("6: no pairs of claims", x.count(4), 0);
    }

    private static void restsRefuses() {
        ClaimSources x = Make.with(2, 3);
        for (int claim : NO_CLAIMS) {
            Due.dueThrow("6: claim " + claim, NoSuchElementException.class,
                    () -> x.rests(claim, 0, true));
        }
        for (int source : new int[] {-1, 2, 24, Integer.MIN_VALUE, Integer.MAX_VALUE}) {
            Due.dueThrow("6: source " + source, NoSuchElementException.class,
                    () -> x.rests(0, source, true));
            Due.dueThrow("6: source " + source + " off", NoSuchElementException.class,
                    () -> x.rests(0, source, false));
        }
        Due.due("6: nothing changed", x.held(0, 100000), false);
    }

    private static void restsOnAnswers() {
        ClaimSources x = Make.with(1, 3);
        Due.due("7: one on another", x.restsOn(0, 1), 1);
        Due.due("7: again", x.restsOn(0, 1), 0);
        Due.due("7: the next", x.restsOn(1, 2), 1);
        Due.due("7: what it rests on over others", x.restsOn(0, 2), 1);
        Due.due("7: three pairs", x.count(4), 3);
        x.rests(2, 0, true);
        Due.due("7: held over others", x.held(0, 0), true);
    }

    private static void ringIsTold() {
        ClaimSources x = Make.with(0, 4);
        x.restsOn(2, 1);
        x.restsOn(1, 3);
        Due.due("7: a ring", x.restsOn(3, 2), ClaimSources.NONE);
        Due.due("8: the ring", Make.ring(x), "3 2 1");
        Due.due("8: behind its end", x.ring(3), ClaimSources.NONE);
        Due.due("8: far behind its end", x.ring(Integer.MAX_VALUE), ClaimSources.NONE);
        Due.due("7: nothing changes", x.count(4), 2);
        Due.due("7: a ring of two", x.restsOn(1, 2), ClaimSources.NONE);
        Due.due("8: the ring of two", Make.ring(x), "1 2");
        x.lift(2, 1);
        Due.due("7: no ring any more", x.restsOn(3, 2), 1);
    }

    private static void ringOfOne() {
        ClaimSources x = Make.with(0, 2);
        x.restsOn(0, 1);
        Due.due("7: on itself", x.restsOn(0, 0), ClaimSources.NONE);
        Due.due("8: the ring of one", Make.ring(x), "0");
        Due.due("7: on itself, the other", x.restsOn(1, 1), ClaimSources.NONE);
        Due.due("8: the other ring of one", Make.ring(x), "1");
        Due.due("7: nothing changes", x.count(4), 1);
    }

    private static void shortestRingIsTold() {
        ClaimSources x = Make.with(0, 6);
        x.restsOn(0, 1);
        x.restsOn(1, 2);
        x.restsOn(2, 3);
        x.restsOn(0, 5);
        x.restsOn(5, 3);
        x.restsOn(3, 4);
        Due.due("7: a ring", x.restsOn(4, 0), ClaimSources.NONE);
        Due.due("7: the shortest, not the lowest", Make.ring(x), "4 0 5 3");
    }

    private static void lowestRingIsTold() {
        ClaimSources x = Make.with(0, 7);
        x.restsOn(6, 5);
        x.restsOn(6, 2);
        x.restsOn(6, 4);
        x.restsOn(5, 1);
        x.restsOn(2, 3);
        x.restsOn(4, 1);
        x.restsOn(1, 0);
        x.restsOn(3, 0);
        Due.due("7: a ring", x.restsOn(0, 6), ClaimSources.NONE);
        Due.due("7: the lower where they differ first", Make.ring(x), "0 6 2 3");
        x.lift(2, 3);
        x.restsOn(0, 6);
        Due.due("7: the next lower one", Make.ring(x), "0 6 4 1");
    }

    private static void ringOverClaimZero() {
        ClaimSources x = Make.with(0, 3);
        x.restsOn(2, 0);
        x.restsOn(0, 1);
        Due.due("7: a ring over claim 0", x.restsOn(1, 2), ClaimSources.NONE);
        Due.due("8: the ring over claim 0", Make.ring(x), "1 2 0");
    }

    private static void claimZeroMakesNoRing() {
        ClaimSources x = Make.with(0, 5);
        x.restsOn(1, 0);
        Due.due("7: one rests on claim 0", x.restsOn(2, 1), 1);
        x.restsOn(3, 2);
        Due.due("7: those above do not count", x.restsOn(4, 1), 1);
        Due.due("7: nor does claim 0", x.restsOn(2, 0), 1);
        Due.due("7: no ring was told", x.ring(0), ClaimSources.NONE);
    }

    private static void longestRing() {
        ClaimSources x = Make.with(0, 24);
        StringBuilder want = new StringBuilder("0");
        for (int claim = 23; claim > 0; claim--) {
            x.restsOn(claim, claim - 1);
            want.append(" ").append(claim);
        }
        Due.due("7: a ring of 24", x.restsOn(0, 23), ClaimSources.NONE);
        Due.due("8: the ring of 24", Make.ring(x), want.toString());
        Due.due("8: place 23", x.ring(23), 1);
        Due.due("8: place 24", x.ring(24), ClaimSources.NONE);
    }

    private static void ringStaysUntilTheNext() {
        ClaimSources x = Make.with(1, 4);
        x.restsOn(0, 1);
        x.restsOn(1, 2);
        x.restsOn(2, 0);
        x.restsOn(0, 1);
        x.restsOn(0, 3);
        x.lift(0, 1);
        x.claim();
        Due.due("8: the ring that was told latest", Make.ring(x), "2 0 1");
        x.restsOn(3, 3);
        Due.due("8: a shorter one later", Make.ring(x), "3");
    }

    private static void restsOnRefuses() {
        ClaimSources x = Make.with(4, 3);
        x.restsOn(1, 1);
        for (int claim : NO_CLAIMS) {
            Due.dueThrow("7: claim " + claim, NoSuchElementException.class,
                    () -> x.restsOn(claim, 0));
            Due.dueThrow("7: other " + claim, NoSuchElementException.class,
                    () -> x.restsOn(0, claim));
            Due.dueThrow("7: both " + claim, NoSuchElementException.class,
                    () -> x.restsOn(claim, claim));
        }
        Due.due("7: nothing changed", x.count(4), 0);
        Due.due("7: the ring stays", Make.ring(x), "1");
    }

    private static void ringRefuses() {
        ClaimSources x = Make.with(0, 1);
        Due.due("8: none was told", x.ring(0), ClaimSources.NONE);
        Due.due("8: none was told, far", x.ring(100), ClaimSources.NONE);
        Due.dueThrow("8: ring(-1)", NoSuchElementException.class, () -> x.ring(-1));
        Due.dueThrow("8: the least int", NoSuchElementException.class,
                () -> x.ring(Integer.MIN_VALUE));
    }

    private static void liftTellsWhetherItDid() {
        ClaimSources x = Make.with(1, 3);
        Due.due("9: it did not", x.lift(0, 1), false);
        Due.due("9: on itself it never did", x.lift(0, 0), false);
        x.restsOn(0, 1);
        x.restsOn(1, 2);
        x.rests(2, 0, true);
        Due.due("9: over others only", x.lift(0, 2), false);
        Due.due("9: the other way round", x.lift(1, 0), false);
        Due.due("9: held so far", x.held(0, 0), true);
        Due.due("9: it did", x.lift(0, 1), true);
        Due.due("9: not any more", x.lift(0, 1), false);
        Due.due("9: not held any more", x.held(0, 0), false);
        Due.due("9: the next still is", x.held(1, 0), true);
        Due.due("9: one pair is left", x.count(4), 1);
        Due.due("9: again", x.restsOn(0, 1), 1);
    }

    private static void liftRefuses() {
        ClaimSources x = Make.with(4, 3);
        x.restsOn(0, 1);
        for (int claim : NO_CLAIMS) {
            Due.dueThrow("9: claim " + claim, NoSuchElementException.class,
                    () -> x.lift(claim, 0));
            Due.dueThrow("9: other " + claim, NoSuchElementException.class,
                    () -> x.lift(0, claim));
        }
        Due.due("9: nothing changed", x.count(4), 1);
    }
}
