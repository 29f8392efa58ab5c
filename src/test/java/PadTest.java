/** Promises 1 (a new object), 2 (unit) and 3 (clear). */
final class PadTest {
    public static void main(String[] args) {
        newObjectIsEmpty();
        objectsAreApart();
        unitCounts();
        unitRefusesWhatIsNoSign();
        unitRefusesTheSixtyFirst();
        clearTellsHowMany();
        Due.end();
    }

    private static void newObjectIsEmpty() {
        ClaimSources x = new ClaimSources();
        for (int what = 0; what <= 4; what++) {
            Due.due("1: count(" + what + ") of a new object", x.count(what), 0);
        }
        Due.due("1: ring(0) of a new object", x.ring(0), ClaimSources.NONE);
        Due.due("1: clear() of a new object", x.clear(), 0);
        Due.due("1: the first source", x.source(0, 0), 0);
        Due.due("1: the first claim", x.claim(), 0);
        for (int form = 0; form <= 3; form++) {
            Due.due("1: form " + form + " is empty", x.cite(0, form, -1), 0);
        }
    }

    private static void objectsAreApart() {
        ClaimSources first = Make.with(2, 2);
        first.unit(5);
        ClaimSources second = new ClaimSources();
        Due.due("1: another object's pad", second.count(0), 0);
        Due.due("1: another object's sources", second.count(1), 0);
        Due.due("1: another object's claims", second.count(2), 0);
    }

    private static void unitCounts() {
        ClaimSources x = new ClaimSources();
        Due.due("2: unit(1)", x.unit(1), 1);
        Due.due("2: unit(127)", x.unit(127), 2);
        for (int i = 3; i <= 60; i++) {
            Due.due("2: unit as number " + i, x.unit(i), i);
        }
        Due.due("2: count(0)", x.count(0), 60);
    }

    private static void unitRefusesWhatIsNoSign() {
        ClaimSources x = new ClaimSources();
        x.unit(9);
        for (int sign : new int[] {0, -1, 128, Integer.MIN_VALUE, Integer.MAX_VALUE}) {
            Due.dueThrow("2: unit(" + sign + ")", IllegalArgumentException.class,
                    () -> x.unit(sign));
        }
        Due.due("2: the pad stays", x.count(0), 1);
    }

    private static void unitRefusesTheSixtyFirst() {
        ClaimSources x = new ClaimSources();
        Make.write(x, "a".repeat(60));
        Due.dueThrow("2: unit on a full pad", IllegalStateException.class, () -> x.unit(98));
        Due.dueThrow("2: no sign on a full pad", IllegalArgumentException.class,
                () -> x.unit(0));
        Due.due("2: the full pad stays", x.count(0), 60);
        x.form(0);
        x.source(0, 0);
        Due.due("2: the text stays", Make.citation(x, 0, 0), "a".repeat(60));
    }

    private static void clearTellsHowMany() {
        ClaimSources x = new ClaimSources();
        Make.write(x, "abc");
        Due.due("3: clear()", x.clear(), 3);
        Due.due("3: count(0)", x.count(0), 0);
        Due.due("3: clear() again", x.clear(), 0);
        Due.due("3: unit behind clear()", x.unit(100), 1);
        x.form(1);
        x.source(0, 0);
        Due.due("3: nothing of the former pad is left", Make.citation(x, 0, 1), "d");
        Make.write(x, "e".repeat(60));
        Due.due("3: clear() of a full pad", x.clear(), 60);
        Due.due("3: a pad that was full takes signs", x.unit(1), 1);
    }
}
