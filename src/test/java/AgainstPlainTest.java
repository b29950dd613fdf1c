import java.util.Random;

/** Runs of calls by chance (the same each time), on FallowFerry and on PlainFerry: each answer must be the same. */
public final class AgainstPlainTest {
    private static final int RUNS = 2500;
    // what an object answers behind its 512th call is free
    private static final int CALLS = 512;
    private static final int CALLS_OF_A_ROUND = 60;

    private final Random chance;
    private final Checks checks;
    private final String run;
    private final FallowFerry x = new FallowFerry();
    private final PlainFerry plain = new PlainFerry();
    private int made = 0;

    private AgainstPlainTest(int number, Checks checks) {
        chance = new Random(number);
        run = "run " + number + ": ";
        this.checks = checks;
    }

    public static void main(String[] args) {
        Checks checks = new Checks();
        for (int k = 0; k < RUNS; k++) {
            new AgainstPlainTest(k, checks).calls();
        }
        checks.end();
    }

    private int below(int n) {
        return chance.nextInt(n);
    }

    /** Mostly from least to most, now and then one beyond. */
    private int about(int least, int most) {
        int beyond = below(40);
        return beyond == 0 ? least - 1 : beyond == 1 ? most + 1 : least + below(Math.max(1, most - least + 1));
    }

    private void due(String call, long got, long want) {
        made++;
        checks.due(run + call, got, want);
    }

    private void calls() {
        for (int k = 0; made < CALLS - CALLS_OF_A_ROUND; k++) {
            if (k == 0 || below(30) == 0) {
                tell();
            } else {
                call(below(30));
            }
        }
    }

    private void tell() {
        String text = below(4) == 0 ? marred(text()) : text();
        for (int k = 0; k < text.length(); k += 8) {
            String part = text.substring(k, Math.min(k + 8, text.length()));
            long v = Tell.bytes(part);
            if (part.length() < 8 && below(2) == 0) {
                v |= chance.nextLong() << (8 * part.length());
            }
            due("type " + part, x.type(v, part.length()), plain.type(v, part.length()));
        }
        due("river " + text, x.river(), plain.river());
        due("count(4)", x.count(4), plain.count(4));
        if (below(3) > 0) {
            due("clear", x.clear(), plain.clear());
        }
    }

    private String text() {
        StringBuilder all = new StringBuilder();
        int things = below(6) == 0 ? 7 : below(7);
        int wants = below(3);
        for (int t = 0; t < things; t++) {
            int want = wants == 0 ? 1 : below(3);
            int bank = wants == 0 ? 0 : below(2);
            item(all, "thing", bank, want, below(10), 1 + below(below(3) == 0 ? 9 : 3));
        }
        int pairs = things < 2 ? 0 : below(below(4) == 0 ? 9 : 4);
        for (int k = 0; k < pairs; k++) {
            int a = below(things);
            item(all, "fears", a, (a + 1 + below(things - 1)) % things);
        }
        if (below(4) == 0) item(all, "ferry", below(2));
        if (below(3) > 0) item(all, "load", below(2) == 0 ? 1 + below(20) : 1 + below(6));
        if (below(3) == 0) item(all, "days", below(21));
        if (below(3) == 0) item(all, "frost", below(10));
        return all.toString();
    }

    private void item(StringBuilder all, String word, int... numbers) {
        blanks(all, false);
        all.append(word);
        for (int k = 0; k < numbers.length; k++) {
            blanks(all, k > 0);
            all.append(numbers[k]);
        }
        blanks(all, false);
        all.append(';');
    }

    private void blanks(StringBuilder all, boolean needed) {
        int many = below(12) == 0 ? below(3) : 0;
        all.append(" ".repeat(needed ? Math.max(1, many) : many));
    }

    private String marred(String text) {
        StringBuilder all = new StringBuilder(text);
        String signs = " ;0123456789abefrt\u00c8A\t";
        for (int k = 0; k <= below(3); k++) {
            int where = below(all.length() + 1);
            char sign = signs.charAt(below(signs.length()));
            int how = below(4);
            if (how == 0) {
                all.insert(where, sign);
            } else if (how == 1) {
                all.setLength(where);
            } else if (where < all.length() && how == 2) {
                all.setCharAt(where, sign);
            } else if (where < all.length()) {
                all.deleteCharAt(where);
            }
        }
        return all.toString();
    }

    private void call(int which) {
        int things = plain.count(0);
        int t = about(0, things - 1);
        int i = below(3) == 0 ? -1 : about(-1, 14);
        if (which < 4) {
            crossSome(things);
        } else if (which == 4) {
            due("rest", x.rest(), plain.rest());
        } else if (which <= 6) {
            due("night", x.night(), plain.night());
        } else if (which <= 8) {
            due("slide " + t, x.slide(t), plain.slide(t));
        } else if (which == 9) {
            int times = 1 + below(below(5) == 0 ? 12 : 2);
            for (int k = 0; k < times; k++) due("undo", x.undo(), plain.undo());
        } else if (which == 10) {
            int v = chance.nextInt();
            due("lot " + v, x.lot(v), plain.lot(v));
        } else if (which == 11) {
            due("done " + i, x.done(i), plain.done(i));
        } else if (which == 12) {
            int d = about(0, 20);
            due("rent " + d + " " + i, x.rent(d, i), plain.rent(d, i));
        } else if (which == 13) {
            if (below(3) == 0) due("least", x.least(), plain.least());
        } else if (which == 14) {
            due("sooner " + t, x.sooner(t), plain.sooner(t));
        } else if (which == 15) {
            due("standings", x.standings(), plain.standings());
        } else if (which <= 18) {
            seeOrFit(things, t);
        } else {
            smallCall(which, t);
        }
        states(things);
    }

    private void crossSome(int things) {
        int set = chance.nextInt(1 << things) & chance.nextInt(1 << things);
        if (below(3) == 0) {
            made++;
            set = Math.max(0, x.done(0));
        }
        if (below(20) == 0) set = about(0, (1 << things) - 1);
        due("cross " + set, x.cross(set), plain.cross(set));
    }

    private void seeOrFit(int things, int t) {
        int how = below(6);
        if (how < 3) {
            int c = about(0, 5);
            int bank = about(0, 1);
            due("saw " + c + " " + t + " " + bank, x.saw(c, t, bank), plain.saw(c, t, bank));
        } else if (how == 3 && below(4) == 0) {
            due("forget", x.forget(), plain.forget());
        } else {
            // every PLAN is tried by the plain one: not too many things by too many crossings
            int n = about(0, things > 5 ? 2 : things == 5 ? 3 : 5);
            int c = about(0, n);
            due("fits " + n + " " + c, x.fits(n, c), plain.fits(n, c));
        }
    }

    private void smallCall(int which, int t) {
        int image = about(0, 1);
        switch (which) {
            case 19, 20, 21 -> {
                int y = about(0, 50);
                due("owed " + t + " " + y, x.owed(t, y), plain.owed(t, y));
            }
            case 22, 23 -> {
                int kind = about(0, 5);
                due("mark " + kind + " " + t, x.mark(kind, t), plain.mark(kind, t));
                due("trace", x.trace(), plain.trace());
            }
            case 24 -> due("keep " + image, x.keep(image), plain.keep(image));
            case 25 -> due("back " + image, x.back(image), plain.back(image));
            case 26 -> {
                int n = about(1, 8);
                long v = chance.nextLong();
                due("type " + v + " " + n, x.type(v, n), plain.type(v, n));
            }
            case 27 -> due("clear", x.clear(), plain.clear());
            default -> due("trace", x.trace(), plain.trace());
        }
    }

    /** A few looks at what the call may have changed, THINGS' BANKS always. */
    private void states(int things) {
        for (int t = 0; t < things; t++) due("thing " + t, x.thing(t, 0), plain.thing(t, 0));
        for (int what = 0; what <= 3; what += 1 + below(2)) due("now " + what, x.now(what), plain.now(what));
        int nowToo = about(4, 6);
        due("now " + nowToo, x.now(nowToo), plain.now(nowToo));
        int what = about(0, 4);
        due("count " + what, x.count(what), plain.count(what));
        due("count 3", x.count(3), plain.count(3));
        int t = about(0, things - 1);
        int of = about(0, 4);
        due("thing " + t + " " + of, x.thing(t, of), plain.thing(t, of));
    }
}
