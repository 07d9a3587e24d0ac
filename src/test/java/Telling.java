/** All that is told of a house, as one text: by some 200 calls, so one house bears two of them. */
final class Telling {
    private final Poolward x;
    private final StringBuilder text = new StringBuilder();

    private Telling(Poolward x) {
        this.x = x;
    }

    /** All that undo brings back. */
    static String of(Poolward x) {
        Telling telling = new Telling(x);
        telling.people();
        telling.sums();
        telling.lives();
        telling.steps();
        telling.claimsAndPools();
        return telling.text.toString();
    }

    /** How many can be undone and how often it was knocked, too. */
    static String withCounts(Poolward x) {
        return of(x) + "undo " + x.house(8) + " knocks " + x.house(9);
    }

    private void add(Object answer) {
        text.append(answer).append(' ');
    }

    private void people() {
        for (int what = 0; what < 8; what++) {
            add(x.house(what));
        }
        for (int person = 0; person < x.house(0); person++) {
            for (int what = 0; what < 7; what++) {
                add(x.ofPerson(person, what));
            }
        }
        text.append('\n');
    }

    private void sums() {
        for (int number = 0; number < 27; number++) {
            add(x.chance(number / 9, number / 3 % 3, number % 3));
        }
        int all = (1 << x.house(0)) - 1;
        for (int set = 1; set <= all; set++) {
            add("|" + x.law(set, 3));
        }
        for (int rule = 0; rule < 4; rule++) {
            add(x.price(all, rule));
        }
        text.append('\n');
    }

    private void lives() {
        for (int table = 0; table < 2; table++) {
            add(x.premium(table));
            for (int years = 0; years < 7; years++) {
                int year = years;
                int of = table;
                add(x.life(table, years, 0));
                add(x.life(table, years, 1));
                add(Check.answerOf(() -> x.putBy(of, year, false)));
                add(Check.answerOf(() -> x.putBy(of, year, true)));
            }
        }
        text.append('\n');
    }

    private void steps() {
        for (int step = 0; step < 5; step++) {
            add(x.longRun(step));
            add(x.cost(step, 1));
            add(x.cost(step, 3));
        }
        text.append('\n');
    }

    private void claimsAndPools() {
        add(x.queue(99));
        for (int cell = 0; cell < 16; cell++) {
            add(x.run(cell / 4, cell % 4));
            add(x.tenths(cell / 4, cell % 4));
        }
        for (int pool = 0; pool < 4; pool++) {
            add(x.pool(pool, 0));
            add(x.pool(pool, 1));
        }
        add(x.owes());
        text.append('\n');
    }
}
