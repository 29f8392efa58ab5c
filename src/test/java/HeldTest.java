import java.util.NoSuchElementException;

/** Promises 15 (held) and 16 (opened). */
final class HeldTest {
    private static final int[] NO_DAYS = {-1, 100001, Integer.MIN_VALUE, Integer.MAX_VALUE};

    public static void main(String[] args) {
        heldBySources();
        heldOnTheEdgesOfDays();
        heldOverOthers();
        heldOverTwentyFour();
        heldRefuses();
        openedByNumbers();
        openedOverOthers();
        openedLeavesOutWhatIsNotHeld();
        openedRefuses();
        Due.end();
    }

    private static void heldBySources() {
        ClaimSources x = new ClaimSources();
        x.source(0, 10);
        x.source(0, 20);
        x.claim();
        Due.due("15: resting on nothing", x.held(0, 100000), false);
        x.rests(0, 1, true);
        Due.due("15: before the source's day", x.held(0, 19), false);
        Due.due("15: on the source's day", x.held(0, 20), true);
        x.rests(0, 0, true);
        Due.due("15: by the other source", x.held(0, 10), true);
        x.withdraw(0, 15);
        Due.due("15: by the other source until 14", x.held(0, 14), true);
        Due.due("15: by none from 15 on", x.held(0, 15), false);
        Due.due("15: by the first from 20 on", x.held(0, 20), true);
    }

    private static void heldOnTheEdgesOfDays() {
        ClaimSources x = new ClaimSources();
        x.source(0, 0);
        x.source(0, 100000);
        x.claim();
        x.claim();
        x.rests(0, 0, true);
        x.rests(1, 1, true);
        Due.due("15: day 0", x.held(0, 0), true);
        Due.due("15: day 99999", x.held(1, 99999), false);
        Due.due("15: day 100000", x.held(1, 100000), true);
        x.withdraw(1, 100000);
        Due.due("15: withdrawn from day 100000 on", x.held(1, 100000), false);
    }

    private static void heldOverOthers() {
        ClaimSources x = Make.with(1, 4);
        x.restsOn(0, 2);
        x.restsOn(2, 3);
        x.rests(3, 0, true);
        Due.due("15: over two others", x.held(0, 0), true);
        Due.due("15: beside them", x.held(1, 0), false);
        x.rests(3, 0, false);
        x.rests(0, 0, true);
        Due.due("15: those below do not rest on those above", x.held(3, 0), false);
        Due.due("15: nor the one between", x.held(2, 0), false);
        Due.due("15: the one above is held", x.held(0, 0), true);
    }

    private static void heldOverTwentyFour() {
        ClaimSources x = Make.with(1, 24);
        for (int claim = 0; claim < 23; claim++) {
            x.restsOn(claim, claim + 1);
        }
        Due.due("15: a long row on nothing", x.held(0, 0), false);
        x.rests(23, 0, true);
        for (int claim = 0; claim < 24; claim++) {
            Due.due("15: a long row, claim " + claim, x.held(claim, 0), true);
            Due.due("16: a long row, k " + claim, x.opened(0, 0, claim), claim);
        }
        Due.due("16: a long row, k 24", x.opened(0, 0, 24), ClaimSources.NONE);
    }

    private static void heldRefuses() {
        ClaimSources x = Make.with(2, 1);
        for (int claim : new int[] {-1, 1, 24, Integer.MIN_VALUE, Integer.MAX_VALUE}) {
            Due.dueThrow("15: claim " + claim, NoSuchElementException.class,
                    () -> x.held(claim, 0));
            Due.dueThrow("15: claim " + claim + " first", NoSuchElementException.class,
                    () -> x.held(claim, -1));
        }
        for (int day : NO_DAYS) {
            Due.dueThrow("15: day " + day, IllegalArgumentException.class, () -> x.held(0, day));
        }
    }

    private static void openedByNumbers() {
        ClaimSources x = Make.with(2, 24);
        x.rests(23, 0, true);
        x.rests(0, 0, true);
        x.rests(7, 0, true);
        x.rests(5, 0, true);
        x.rests(5, 1, true);
        x.rests(6, 1, true);
        Due.due("16: by numbers", Make.opened(x, 0, 0), "0 7 23");
        Due.due("16: the other source", Make.opened(x, 1, 0), "6");
        Due.due("16: behind the last", x.opened(0, 0, 3), ClaimSources.NONE);
        Due.due("16: far behind the last", x.opened(0, 0, Integer.MAX_VALUE), ClaimSources.NONE);
        x.withdraw(1, 9);
        Due.due("16: before the other is withdrawn", Make.opened(x, 0, 8), "0 7 23");
        Due.due("16: the other is withdrawn", Make.opened(x, 0, 9), "0 5 7 23");
        Due.due("16: nothing is withdrawn by asking", x.withdraw(0, -1), -1);
    }

    private static void openedOverOthers() {
        ClaimSources x = Make.with(2, 5);
        x.rests(4, 0, true);
        x.restsOn(3, 4);
        x.restsOn(1, 3);
        x.restsOn(0, 1);
        x.restsOn(0, 2);
        Due.due("16: over others", Make.opened(x, 0, 0), "0 1 3 4");
        x.rests(2, 1, true);
        Due.due("16: one is held by another claim", Make.opened(x, 0, 0), "1 3 4");
        Due.due("16: the other source", Make.opened(x, 1, 0), "2");
    }

    private static void openedLeavesOutWhatIsNotHeld() {
        ClaimSources x = new ClaimSources();
        x.source(0, 10);
        x.claim();
        x.rests(0, 0, true);
        Due.due("16: before the source's day", x.opened(0, 9, 0), ClaimSources.NONE);
        Due.due("16: on the source's day", x.opened(0, 10, 0), 0);
        x.withdraw(0, 20);
        Due.due("16: before it is withdrawn", x.opened(0, 19, 0), 0);
        Due.due("16: withdrawn by then", x.opened(0, 20, 0), ClaimSources.NONE);
    }

    private static void openedRefuses() {
        ClaimSources x = Make.with(1, 2);
        for (int source : new int[] {-1, 1, 24, Integer.MIN_VALUE, Integer.MAX_VALUE}) {
            Due.dueThrow("16: source " + source, NoSuchElementException.class,
                    () -> x.opened(source, 0, 0));
            Due.dueThrow("16: source " + source + " first", NoSuchElementException.class,
                    () -> x.opened(source, -1, 0));
        }
        Due.dueThrow("16: k -1", NoSuchElementException.class, () -> x.opened(0, 0, -1));
        Due.dueThrow("16: k -1 first", NoSuchElementException.class, () -> x.opened(0, -1, -1));
        Due.dueThrow("16: the least k", NoSuchElementException.class,
                () -> x.opened(0, 0, Integer.MIN_VALUE));
        for (int day : NO_DAYS) {
            Due.dueThrow("16: day " + day, IllegalArgumentException.class,
                    () -> x.opened(0, day, 0));
        }
    }
}
