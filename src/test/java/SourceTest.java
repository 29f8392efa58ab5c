import java.util.NoSuchElementException;

/** Promises 4 (source) and 10 (withdraw). */
final class SourceTest {
    public static void main(String[] args) {
        sourcesAreNumbered();
        sourceTakesThePad();
        sourceRefusesKindAndDay();
        sourceRefusesTheTwentyFifth();
        withdrawTellsFromWhenItWas();
        withdrawnFromADayOn();
        withdrawRefuses();
        Due.end();
    }

    private static void sourcesAreNumbered() {
        ClaimSources x = new ClaimSources();
        for (int i = 0; i < 24; i++) {
            Due.due("4: source number " + i, x.source(25 - i % 26, i == 23 ? 100000 : i), i);
        }
        Due.due("4: count(1)", x.count(1), 24);
    }

    private static void sourceTakesThePad() {
        ClaimSources x = new ClaimSources();
        Make.write(x, "text");
        x.source(0, 0);
        Due.due("4: the pad is empty then", x.count(0), 0);
        x.source(0, 0);
        Make.write(x, "text");
        Due.due("4: the pad is the text", x.quote(0, 0), 0);
        Due.due("4: the text has four signs", x.quote(0, 4), 1);
        Due.dueThrow("4: and no fifth", NoSuchElementException.class, () -> x.quote(0, 5));
        Due.due("4: an empty text", x.quote(1, 0), 1);
        Due.dueThrow("4: an empty text has no place 1", NoSuchElementException.class,
                () -> x.quote(1, 1));
    }

    private static void sourceRefusesKindAndDay() {
        ClaimSources x = new ClaimSources();
        Make.write(x, "ab");
        for (int kind : new int[] {-1, 26, Integer.MIN_VALUE, Integer.MAX_VALUE}) {
            Due.dueThrow("4: kind " + kind, IllegalArgumentException.class,
                    () -> x.source(kind, 0));
        }
        for (int day : new int[] {-1, 100001, Integer.MIN_VALUE, Integer.MAX_VALUE}) {
            Due.dueThrow("4: day " + day, IllegalArgumentException.class, () -> x.source(0, day));
        }
        Due.due("4: no source is made", x.count(1), 0);
        Due.due("4: the pad stays", x.count(0), 2);
        Due.due("4: kind 25, day 100000", x.source(25, 100000), 0);
    }

    private static void sourceRefusesTheTwentyFifth() {
        ClaimSources x = Make.with(24, 0);
        Make.write(x, "ab");
        Due.dueThrow("4: source 24", IllegalStateException.class, () -> x.source(0, 0));
        Due.dueThrow("4: kind first", IllegalArgumentException.class, () -> x.source(26, 0));
        Due.dueThrow("4: day first", IllegalArgumentException.class, () -> x.source(0, -1));
        Due.due("4: there are 24", x.count(1), 24);
        Due.due("4: the pad stays", x.count(0), 2);
    }

    private static void withdrawTellsFromWhenItWas() {
        ClaimSources x = Make.with(2, 0);
        Due.due("10: never withdrawn", x.withdraw(0, 7), -1);
        Due.due("10: again", x.withdraw(0, 0), 7);
        Due.due("10: the other one", x.withdraw(1, 100000), -1);
        Due.due("10: not any more", x.withdraw(0, ClaimSources.NONE), 0);
        Due.due("10: it was not", x.withdraw(0, -1), -1);
        Due.due("10: the other one not any more", x.withdraw(1, -1), 100000);
    }

    private static void withdrawnFromADayOn() {
        ClaimSources x = new ClaimSources();
        x.source(0, 10);
        x.claim();
        x.rests(0, 0, true);
        x.withdraw(0, 20);
        Due.due("10: held the day before", x.held(0, 19), true);
        Due.due("10: not held that day", x.held(0, 20), false);
        Due.due("10: not held on the last day", x.held(0, 100000), false);
        x.withdraw(0, 5);
        Due.due("10: withdrawn before its day", x.held(0, 10), false);
        x.withdraw(0, 0);
        Due.due("10: withdrawn from day 0 on", x.held(0, 50), false);
        x.withdraw(0, ClaimSources.NONE);
        Due.due("10: held again", x.held(0, 20), true);
    }

    private static void withdrawRefuses() {
        ClaimSources x = Make.with(1, 0);
        x.withdraw(0, 3);
        for (int source : new int[] {-1, 1, 24, Integer.MIN_VALUE, Integer.MAX_VALUE}) {
            Due.dueThrow("10: source " + source, NoSuchElementException.class,
                    () -> x.withdraw(source, 0));
            Due.dueThrow("10: source " + source + " first", NoSuchElementException.class,
                    () -> x.withdraw(source, -2));
        }
        for (int day : new int[] {-2, 100001, Integer.MIN_VALUE, Integer.MAX_VALUE}) {
            Due.dueThrow("10: day " + day, IllegalArgumentException.class,
                    () -> x.withdraw(0, day));
        }
        Due.due("10: nothing changed", x.withdraw(0, 100000), 3);
    }
}
