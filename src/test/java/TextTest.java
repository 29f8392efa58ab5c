import java.util.NoSuchElementException;

/** Promises 17 (quote), 18 (form), 19 (cite) and 20 (count). */
final class TextTest {
    private static final int[] NO_FORMS = {-1, 4, Integer.MIN_VALUE, Integer.MAX_VALUE};

    public static void main(String[] args) {
        quoteFindsThePad();
        quoteTellsTheFirstPlaceThatDoesNotStand();
        quoteOfFullTexts();
        quoteRefuses();
        formTakesThePad();
        formRefuses();
        citeReplaces();
        citeOfTheLongest();
        citeOfAnEmptyForm();
        citeRefuses();
        countTells();
        countRefuses();
        Due.end();
    }

    private static ClaimSources withText(String text) {
        ClaimSources x = new ClaimSources();
        Make.write(x, text);
        x.source(0, 0);
        return x;
    }

    private static void quoteFindsThePad() {
        ClaimSources x = withText("abcab");
        Due.due("17: an empty pad at 0", x.quote(0, 0), 0);
        Due.due("17: an empty pad at the end", x.quote(0, 5), 0);
        Make.write(x, "ab");
        Due.due("17: at 0", x.quote(0, 0), 0);
        Due.due("17: at 3", x.quote(0, 3), 0);
        Due.due("17: the pad stays", x.count(0), 2);
        Make.write(x, "cab");
        Due.due("17: the whole text", x.quote(0, 0), 0);
    }

    private static void quoteTellsTheFirstPlaceThatDoesNotStand() {
        ClaimSources x = withText("abcab");
        Make.write(x, "abd");
        Due.due("17: the third is another", x.quote(0, 0), 3);
        Due.due("17: the first is another", x.quote(0, 1), 1);
        Due.due("17: the third is behind the end", x.quote(0, 3), 3);
        Due.due("17: the first is behind the end", x.quote(0, 5), 1);
        Due.due("17: the pad stays", x.count(0), 3);
        ClaimSources y = withText("ab");
        y.source(0, 0);
        Make.write(y, "ab");
        Due.due("17: an empty text", y.quote(1, 0), 1);
        Make.write(y, "a");
        Due.due("17: a pad longer than the text", y.quote(0, 0), 3);
    }

    private static void quoteOfFullTexts() {
        String sixty = "0123456789".repeat(6);
        ClaimSources x = withText(sixty);
        Make.write(x, sixty);
        x.source(0, 0);
        Make.write(x, sixty);
        Due.due("17: sixty signs", x.quote(0, 0), 0);
        Due.due("17: a text's end is no other text's start", x.quote(0, 10), 51);
        Due.due("17: behind sixty signs", x.quote(0, 60), 1);
        Due.due("17: sixty signs of the second", x.quote(1, 50), 11);
        Due.dueThrow("17: place 61", NoSuchElementException.class, () -> x.quote(0, 61));
    }

    private static void quoteRefuses() {
        ClaimSources x = withText("abc");
        x.claim();
        x.claim();
        for (int source : new int[] {-1, 1, 24, Integer.MIN_VALUE, Integer.MAX_VALUE}) {
            Due.dueThrow("17: source " + source, NoSuchElementException.class,
                    () -> x.quote(source, 0));
        }
        for (int at : new int[] {-1, 4, Integer.MIN_VALUE, Integer.MAX_VALUE}) {
            Due.dueThrow("17: at " + at, NoSuchElementException.class, () -> x.quote(0, at));
        }
    }

    private static void formTakesThePad() {
        ClaimSources x = withText("");
        Make.write(x, "first");
        Due.due("18: its length", x.form(0), 5);
        Due.due("18: the pad is empty", x.count(0), 0);
        Make.write(x, "last");
        Due.due("18: the last form", x.form(3), 4);
        Due.due("18: form 0", Make.citation(x, 0, 0), "first");
        Due.due("18: form 3", Make.citation(x, 0, 3), "last");
        Make.write(x, "new");
        Due.due("18: in place of it", x.form(0), 3);
        Due.due("18: the new form 0", Make.citation(x, 0, 0), "new");
        Due.due("18: an empty pad", x.form(0), 0);
        Due.due("18: an empty form", x.cite(0, 0, -1), 0);
        Make.write(x, "z".repeat(60));
        Due.due("18: sixty signs", x.form(1), 60);
        Due.due("18: form 1", Make.citation(x, 0, 1), "z".repeat(60));
        Due.due("18: form 3 stays", Make.citation(x, 0, 3), "last");
    }

    private static void formRefuses() {
        ClaimSources x = new ClaimSources();
        Make.write(x, "ab");
        for (int form : NO_FORMS) {
            Due.dueThrow("18: form " + form, NoSuchElementException.class, () -> x.form(form));
        }
        Due.due("18: the pad stays", x.count(0), 2);
    }

    private static void citeReplaces() {
        ClaimSources x = new ClaimSources();
        for (int i = 0; i < 24; i++) {
            x.source(i, i == 0 ? 0 : i == 23 ? 98765 : i * 110);
        }
        Make.write(x, "[#, @$]#\u0001\u007f");
        x.form(1);
        Due.due("19: source 0", Make.citation(x, 0, 1), "[0, 0a]0\u0001\u007f");
        Due.due("19: source 9", Make.citation(x, 9, 1), "[9, 990j]9\u0001\u007f");
        Due.due("19: source 10", Make.citation(x, 10, 1), "[10, 1100k]10\u0001\u007f");
        Due.due("19: source 23", Make.citation(x, 23, 1), "[23, 98765x]23\u0001\u007f");
        Due.due("19: its length", x.cite(23, 1, -1), 16);
    }

    private static void citeOfTheLongest() {
        ClaimSources x = new ClaimSources();
        x.source(25, 100000);
        Make.write(x, "@".repeat(60));
        x.form(2);
        Due.due("19: 360 signs", x.cite(0, 2, -1), 360);
        Due.due("19: the citation", Make.citation(x, 0, 2), "100000".repeat(60));
        Due.dueThrow("19: sign 360", NoSuchElementException.class, () -> x.cite(0, 2, 360));
        x.unit(36);
        x.form(2);
        Due.due("19: kind 25", x.cite(0, 2, 0), 122);
    }

    private static void citeOfAnEmptyForm() {
        ClaimSources x = withText("text");
        Due.due("19: an empty form", x.cite(0, 0, -1), 0);
        Due.dueThrow("19: it has no sign", NoSuchElementException.class, () -> x.cite(0, 0, 0));
    }

    private static void citeRefuses() {
        ClaimSources x = withText("text");
        x.claim();
        x.claim();
        Make.write(x, "#@");
        x.form(0);
        for (int source : new int[] {-1, 1, 24, Integer.MIN_VALUE, Integer.MAX_VALUE}) {
            Due.dueThrow("19: source " + source, NoSuchElementException.class,
                    () -> x.cite(source, 0, -1));
        }
        for (int form : NO_FORMS) {
            Due.dueThrow("19: form " + form, NoSuchElementException.class,
                    () -> x.cite(0, form, -1));
        }
        for (int i : new int[] {-2, 2, Integer.MIN_VALUE, Integer.MAX_VALUE}) {
            Due.dueThrow("19: sign " + i, NoSuchElementException.class, () -> x.cite(0, 0, i));
        }
        Due.due("19: the last sign", x.cite(0, 0, 1), 48);
    }

    private static void countTells() {
        ClaimSources x = Make.with(3, 4);
        x.restsOn(0, 1);
        x.restsOn(1, 2);
        x.restsOn(2, 0);
        x.restsOn(0, 1);
        x.opinion(0, 0, 0, 0, 0);
        x.opinion(0, 0, 1, 0, 0);
        x.opinion(0, 1, 0, 0, 0);
        x.rests(0, 0, true);
        x.unit(9);
        Due.due("20: signs of the pad", x.count(0), 1);
        Due.due("20: sources", x.count(1), 3);
        Due.due("20: claims", x.count(2), 4);
        Due.due("20: opinions", x.count(3), 2);
        Due.due("20: pairs", x.count(4), 2);
        ClaimSources y = Make.with(0, 24);
        for (int claim = 0; claim < 24; claim++) {
            for (int other = claim + 1; other < 24; other++) {
                y.restsOn(claim, other);
            }
        }
        Due.due("20: all pairs", y.count(4), 276);
    }

    private static void countRefuses() {
        ClaimSources x = new ClaimSources();
        for (int what : new int[] {-1, 5, Integer.MIN_VALUE, Integer.MAX_VALUE}) {
            Due.dueThrow("20: count(" + what + ")", IllegalArgumentException.class,
                    () -> x.count(what));
        }
    }
}
