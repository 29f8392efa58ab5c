/** Makes objects and their parts, for the tests of the project. */
final class Make {
    private Make() {
    }

    /** An object with so many sources (kind 0, day 0, no text) and claims. */
    static ClaimSources with(int sources, int claims) {
        ClaimSources x = new ClaimSources();
        for (int i = 0; i < sources; i++) {
            x.source(0, 0);
        }
        for (int i = 0; i < claims; i++) {
            x.claim();
        }
        return x;
    }

    /** Puts a text behind the pad. */
    static void write(ClaimSources x, String text) {
        for (int i = 0; i < text.length(); i++) {
            x.unit(text.charAt(i));
        }
    }

    static String ring(ClaimSources x) {
        StringBuilder ring = new StringBuilder();
        for (int k = 0; k <= 24 && x.ring(k) != ClaimSources.NONE; k++) {
            ring.append(k == 0 ? "" : " ").append(x.ring(k));
        }
        return ring.toString();
    }

    static String dissenters(ClaimSources x, int claim, int day) {
        StringBuilder persons = new StringBuilder();
        for (int k = 0; k <= 32 && x.dissent(claim, day, k) != ClaimSources.NONE; k++) {
            persons.append(k == 0 ? "" : " ").append(x.dissent(claim, day, k));
        }
        return persons.toString();
    }

    static String opened(ClaimSources x, int source, int day) {
        StringBuilder claims = new StringBuilder();
        for (int k = 0; k <= 24 && x.opened(source, day, k) != ClaimSources.NONE; k++) {
            claims.append(k == 0 ? "" : " ").append(x.opened(source, day, k));
        }
        return claims.toString();
    }

    static String citation(ClaimSources x, int source, int form) {
        StringBuilder signs = new StringBuilder();
        int length = x.cite(source, form, -1);
        for (int i = 0; i < length; i++) {
            signs.append((char) x.cite(source, form, i));
        }
        return signs.toString();
    }
}
