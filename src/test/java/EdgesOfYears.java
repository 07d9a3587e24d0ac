/** The edges that the document's sections 4 to 7 name. */
final class EdgesOfYears {
    private final Boundaries b;

    EdgesOfYears(Boundaries b) {
        this.b = b;
    }

    void check() {
        tables();
        policies();
        benefits();
        putBy();
        twoLives();
        rates();
        steps();
        costs();
        claims();
        claimYears();
        growths();
        toCome();
        pools();
        rings();
        owes();
    }

    // ---- section 4

    private void tables() {
        b.sentence("section 4", "Two TABLES (0 and 1) of 6 LIFE YEARS (0 to 5) each");
        Poolward x = new Poolward();
        b.due(1, x.table(1, 5, 0, 100, 0));
        b.due("1", x.life(1, 5, 0));
        b.due("1", x.life(1, 6, 2));
        b.due("1", x.life(0, 6, 0));
        b.index(Poolward::new, y -> y.table(2, 0, 0, 0, 0), y -> y.table(-1, 0, 0, 0, 0),
                y -> y.table(0, 6, 0, 0, 0), y -> y.table(0, -1, 0, 0, 0));
        b.sentence("section 4", "dies with DIE hundredths (both together at most 100),"
                + " otherwise it stays WELL");
        Poolward y = new Poolward();
        b.due(2, y.table(0, 0, 40, 60, 0));
        b.due("0", y.life(0, 1, 0));
        b.due("2/5", y.life(0, 1, 1));
        b.due(1, y.table(0, 0, 40, 59, 0));
        b.due("1/100", y.life(0, 1, 0));
        b.notDone(-9, Poolward::new, z -> z.table(0, 0, 41, 60, 0),
                z -> z.table(0, 0, 100, 1, 0), z -> z.table(0, 0, 1, 100, 0));
        b.sentence("section 4", "who is ILL dies with ILL DIE hundredths, otherwise it stays ILL"
                + " (all 0 at first)");
        Poolward z = new Poolward();
        b.due("1", z.life(0, 6, 0));
        b.due("1", z.life(1, 6, 0));
        b.due(1, z.table(0, 0, 100, 0, 0));
        b.due("1", z.life(0, 6, 1));
        b.due(1, z.table(0, 1, 0, 0, 100));
        b.due("1", z.life(0, 1, 1));
        b.due("1", z.life(0, 2, 2));
        b.due("1", z.life(0, 6, 2));
        b.sentence("section 4", "All are WELL as the LIFE YEAR 0 begins");
        b.due("1", z.life(0, 0, 0));
        b.due("0", z.life(0, 0, 1));
    }

    private void policies() {
        b.sentence("section 4", "i hundredths (0 to 50; 0 at first)");
        Poolward x = new Poolward();
        x.policy(0, 1, 0, 0, 30);
        b.due("30", x.premium(0));
        b.due(0, x.interest(50));
        b.due("20", x.premium(0));
        b.due(50, x.interest(0));
        b.due("30", x.premium(0));
        b.argument(Poolward::new, y -> y.interest(51), y -> y.interest(-1));
        b.sentence("section 4", "TERM (1 to 6 LIFE YEARS, from 0 on; 1 at first),"
                + " and coins (0 to 99 each; 0 at first)");
        Poolward z = new Poolward();
        for (int table = 0; table < 2; table++) {
            z.table(table, 0, 30, 20, 10);
            b.due("0", z.premium(table));
            b.due("0", z.putBy(table, 0, true));
            b.due("0", z.putBy(table, 1, true));
        }
        b.index(Poolward::new, y -> y.putBy(0, 2, false), y -> y.putBy(1, 2, true));
        b.due(1, z.policy(0, 6, 99, 99, 99));
        b.due(1, z.policy(1, 1, 0, 0, 0));
        b.due(6, z.policy(0, 1, 0, 0, 0));
        b.argument(Poolward::new, y -> y.policy(0, 0, 0, 0, 0), y -> y.policy(0, 7, 0, 0, 0),
                y -> y.policy(0, 1, 100, 0, 0), y -> y.policy(0, 1, 0, 100, 0),
                y -> y.policy(0, 1, 0, 0, 100), y -> y.policy(0, 1, 0, 0, -1));
    }

    private void benefits() {
        b.sentence("section 4", "DEATH, paid at the end of the LIFE YEAR in which one dies");
        Poolward x = new Poolward();
        x.table(0, 1, 0, 100, 0);
        x.policy(0, 1, 50, 0, 0);
        b.due("0", x.premium(0));
        x.policy(0, 2, 50, 0, 0);
        b.due("25", x.premium(0));
        x.policy(0, 6, 50, 0, 0);
        b.due("25", x.premium(0));
        b.sentence("section 4", "ILL, paid at the end of each LIFE YEAR to who is ILL then");
        Poolward y = new Poolward();
        y.table(0, 0, 100, 0, 0);
        y.policy(0, 1, 0, 10, 0);
        b.due("10", y.premium(0));
        y.policy(0, 3, 0, 10, 0);
        b.due("30", y.premium(0));
        y.table(0, 1, 0, 0, 100);
        b.due("10", y.premium(0));
        b.sentence("section 4", "END, paid at the end of the last one to who is WELL or ILL then");
        Poolward z = new Poolward();
        z.table(0, 0, 30, 30, 0);
        z.policy(0, 1, 0, 0, 10);
        b.due("7", z.premium(0));
        z.table(0, 0, 0, 100, 0);
        b.due("0", z.premium(0));
        b.sentence("section 4", "what who is WELL pays at the beginning of each LIFE YEAR");
        z.policy(0, 6, 10, 0, 0);
        b.due("10", z.premium(0));
        z.table(0, 0, 0, 0, 0);
        z.policy(0, 6, 0, 0, 60);
        b.due("10", z.premium(0));
    }

    private void putBy() {
        b.sentence("section 4", "PUT BY at the beginning of a LIFE YEAR (or at the end of the last"
                + " one, behind ILL and ahead of END: END then), for who is WELL or ILL then");
        Poolward x = new Poolward();
        x.table(0, 0, 50, 0, 0);
        x.table(0, 1, 0, 0, 50);
        x.policy(0, 2, 40, 20, 7);
        b.due("7", x.putBy(0, 2, false));
        b.due("7", x.putBy(0, 2, true));
        b.due("0", x.putBy(0, 0, false));
        b.due("67/2", x.putBy(0, 1, true));
        b.due("121/6", x.premium(0));
        b.due("-79/6", x.putBy(0, 1, false));
    }

    private void twoLives() {
        b.sentence("section 4", "They LIVE, as long as they are WELL or ILL");
        Poolward x = new Poolward();
        x.table(0, 0, 100, 0, 0);
        b.due("1", x.two(6, true, false));
        x.table(0, 1, 0, 0, 100);
        b.due("1", x.two(1, true, false));
        b.due("0", x.two(2, true, false));
        b.due("1", x.two(2, false, false));
        x.table(1, 1, 0, 100, 0);
        b.due("0", x.two(2, false, false));
    }

    // ---- section 5

    private void rates() {
        b.sentence("section 5", "STEPS 0 to 4 have each a RATE (0 to 300; 100 at first)");
        Poolward x = new Poolward();
        for (int step = 0; step < 5; step++) {
            b.due("100", x.cost(step, 1));
        }
        b.due(100, x.rate(4, 300));
        b.due(100, x.rate(0, 0));
        b.due("300", x.cost(4, 1));
        b.due("0", x.cost(0, 1));
        b.index(Poolward::new, y -> y.rate(5, 1), y -> y.rate(-1, 1));
        b.argument(Poolward::new, y -> y.rate(0, 301), y -> y.rate(0, -1));
        b.sentence("section 5", "a chance (a FRACTION of 0 to 1; 0 at first), a SIZE (0 to 500;"
                + " 0 at first), a DROP (1 to 4; 1 at first)");
        Poolward y = new Poolward();
        b.due("1", y.longRun(4));
        b.due(0, y.house(6));
        b.due(1, y.house(7));
        b.due(1, y.harm(99, 99, 500, 4));
        b.due("1", y.longRun(0));
        b.due(500, y.house(6));
        b.due(4, y.harm(0, 99, 0, 1));
        b.due("1", y.longRun(4));
        b.notDone(-9, Poolward::new, z -> z.harm(99, 98, 1, 2), z -> z.harm(2, 1, 500, 4));
        b.argument(Poolward::new, z -> z.harm(0, 1, 501, 1), z -> z.harm(0, 1, -1, 1),
                z -> z.harm(0, 1, 0, 0), z -> z.harm(0, 1, 0, 5));
    }

    /** A person that is hit by the states 0 and 1, with a drop. */
    private static Poolward dropping(int drop) {
        Poolward x = new Poolward();
        x.person(0, 1, 1, 0);
        x.harm(0, 1, 0, drop);
        return x;
    }

    private void steps() {
        b.sentence("section 5", "one goes one STEP up (at most to 4), after one with a told harm"
                + " DROP STEPS down (at least to 0)");
        Poolward x = dropping(3);
        int[] states = {2, 2, 2, 0, 0, 2, 2, 2, 2};
        int[] due = {3, 4, 4, 1, 0, 1, 2, 3, 4};
        for (int i = 0; i < states.length; i++) {
            x.year(states[i], 0, 0);
            b.due(due[i], x.ofPerson(0, 5));
        }
        Poolward least = dropping(1);
        Poolward most = dropping(4);
        least.year(0, 0, 0);
        most.year(0, 0, 0);
        b.due(1, least.ofPerson(0, 5));
        b.due(0, most.ofPerson(0, 5));
        b.sentence("section 5", "the chances of the STEPS that stay as they are from year to year");
        Poolward y = new Poolward();
        y.harm(1, 2, 0, 1);
        for (int step = 0; step < 5; step++) {
            b.due("1/5", y.longRun(step));
        }
        b.sentence("section 5", "The STEP above is that behind a year without a told harm,"
                + " the STEP below that behind one with it");
        Poolward z = dropping(2);
        for (int step = 0; step < 5; step++) {
            z.rate(step, 10 * step);
        }
        String[] hurdles = {"-10", "-20", "-30", "-30", "-20"};
        for (int step = 0; step < 5; step++) {
            b.due(hurdles[step], z.hurdle(step, 1));
        }
    }

    private void costs() {
        b.sentence("section 5", "without years 0");
        Poolward x = new Poolward();
        x.harm(1, 1, 500, 1);
        b.due("0", x.cost(0, 0));
        b.due("0", x.cost(4, 0));
        b.sentence("section 5", "with no harm COST of them from the STEP above");
        Poolward y = new Poolward();
        y.rate(3, 30);
        y.rate(4, 40);
        b.due("130", y.cost(2, 2));
        b.due("80", y.cost(4, 2));
        b.sentence("section 5", "with a harm the lesser of COST of them from the STEP below,"
                + " and of SIZE and COST of them from the STEP above, together");
        Poolward z = new Poolward();
        z.rate(0, 200);
        String[] due = {"299", "300", "300"};
        for (int i = 0; i < 3; i++) {
            z.harm(1, 1, 99 + i, 1);
            b.due(due[i], z.cost(1, 2));
        }
        b.sentence("section 5", "COST of these from the STEP below, less that from the STEP above");
        b.due("100", z.hurdle(1, 1));
        b.due("100", z.hurdle(0, 1));
        b.due("0", z.hurdle(1, 0));
        b.sentence("section 5", "It PAYS not to tell a harm, if SIZE is less than HURDLE");
        boolean[] pays = {true, false, false};
        for (int i = 0; i < 3; i++) {
            z.harm(1, 1, 99 + i, 1);
            b.due(pays[i], z.pays(1, 1));
        }
    }

    // ---- section 6

    private static Poolward someone() {
        Poolward x = new Poolward();
        x.person(0, 1, 2, 3);
        return x;
    }

    private static Poolward tenClaims() {
        Poolward x = someone();
        for (int i = 0; i < 10; i++) {
            x.claim(0, i, 0, 1);
        }
        return x;
    }

    private void claims() {
        b.sentence("section 6", "CLAIMS, at most 10, numbered from 0 as they come");
        Poolward x = someone();
        for (int number = 0; number < 10; number++) {
            b.due(number, x.claim(0, 9, 0, 1));
        }
        b.state(EdgesOfYears::tenClaims, y -> y.claim(0, 0, 0, 1));
        b.sentence("section 6", "a PERSON, the day of the harm, a day on which it was told"
                + " (the LAG behind it), coins (1 to 99)");
        Poolward z = someone();
        z.claim(0, 3, 0, 1);
        z.claim(0, 3, 96, 99);
        b.due("0@3 1@99", z.queue(99));
        b.due(1, z.run(0, 2));
        b.due(100, z.run(0, 3));
        b.argument(EdgesOfYears::someone, y -> y.claim(0, 0, 0, 0), y -> y.claim(0, 0, 0, 100));
        b.sentence("section 6", "Days are 0 to 99");
        Poolward ends = someone();
        b.due(0, ends.claim(0, 0, 0, 1));
        b.due(1, ends.claim(0, 99, 0, 1));
        b.due("0@0", ends.queue(0));
        b.due("0@0", ends.queue(98));
        b.due("0@0 1@99", ends.queue(99));
        b.argument(EdgesOfYears::someone, y -> y.claim(0, 100, 0, 1), y -> y.claim(0, -1, 0, 1),
                y -> y.claim(0, 50, 50, 1), y -> y.claim(0, 99, 1, 1), y -> y.queue(100),
                y -> y.queue(-1));
    }

    private void claimYears() {
        b.sentence("section 6", "a day is of the CLAIM YEAR day / 25 (0 to 3, rounded down)");
        Poolward x = someone();
        int[] days = {0, 24, 25, 49, 50, 74, 75, 99};
        for (int i = 0; i < days.length; i++) {
            x.claim(0, days[i], 0, 1 + i);
        }
        int[] due = {3, 7, 11, 15};
        for (int i = 0; i < 4; i++) {
            b.due(due[i], x.run(i, 0));
            b.due(due[i], x.run(i, 3));
        }
        b.sentence("section 6", "By their told days, then by their numbers, CLAIMS stand in a QUEUE");
        Poolward y = someone();
        y.claim(0, 10, 20, 1);
        y.claim(0, 30, 0, 1);
        y.claim(0, 29, 0, 1);
        y.claim(0, 0, 30, 1);
        b.due("2@29 0@30 1@30 3@30", y.queue(99));
        b.sentence("section 6", "the coins of all CLAIMS whose harm was in the CLAIM YEAR i,"
                + " and which were told in the CLAIM YEAR i + j at the latest");
        Poolward z = someone();
        z.claim(0, 0, 24, 1);
        z.claim(0, 0, 25, 2);
        z.claim(0, 24, 50, 4);
        z.claim(0, 24, 51, 8);
        z.claim(0, 25, 24, 16);
        z.claim(0, 25, 25, 32);
        int[] first = {1, 3, 7, 15};
        int[] second = {16, 48, 48, 48};
        for (int j = 0; j < 4; j++) {
            b.due(first[j], z.run(0, j));
            b.due(second[j], z.run(1, j));
        }
    }

    /** The runs of its claim years: 2 3 3 4, then 6 10 14, then 0 5, then 7. */
    private static Poolward grown() {
        Poolward x = someone();
        x.claim(0, 0, 0, 2);
        x.claim(0, 24, 1, 1);
        x.claim(0, 24, 74, 1);
        x.claim(0, 25, 0, 6);
        x.claim(0, 25, 25, 4);
        x.claim(0, 49, 26, 4);
        x.claim(0, 50, 25, 5);
        x.claim(0, 75, 0, 7);
        return x;
    }

    private void growths() {
        b.sentence("section 6",
                "As of a CLAIM YEAR t RUN of i and j is known, if i + j is t or less");
        b.due("3/2", grown().growth(0, 1));
        b.due("13/8", grown().growth(0, 2));
        b.due("9/4", grown().growth(0, 3));
        b.sentence("section 6", "GROWTH of j (0 to 2) as of t");
        b.due("4/3", grown().growth(2, 3));
        b.argument(EdgesOfYears::grown, x -> x.growth(3, 3), x -> x.growth(-1, 3));
        b.sentence("section 6", "(not determined, if that is 0, or there is no such i)");
        b.due("-", grown().growth(2, 2));
        b.due("-", grown().growth(0, 0));
        Poolward late = someone();
        late.claim(0, 0, 25, 9);
        b.due("-", late.growth(0, 3));
        b.due("1", late.growth(1, 3));
    }

    private void toCome() {
        b.sentence("section 6", "TO COME of i as of t (i at most t)");
        b.due("0", grown().toCome(0, 0));
        b.due("3", grown().toCome(1, 1));
        b.due("0", grown().toCome(1, 2));
        b.due("14/3", grown().toCome(1, 3));
        b.due("145/39", grown().toCome(2, 3));
        b.due("266/13", grown().toCome(3, 3));
        b.argument(EdgesOfYears::grown, x -> x.toCome(1, 0), x -> x.toCome(3, 2));
        b.sentence("section 6", "(by none, if i is 0)");
        for (int t = 0; t < 4; t++) {
            b.due("0", grown().toCome(0, t));
            b.due("0", new Poolward().toCome(0, t));
        }
        b.sentence("section 6", "not determined, if one of these GROWTHS is not");
        b.due("-", new Poolward().toCome(1, 1));
        b.due("-", new Poolward().toCome(3, 3));
        Poolward late = someone();
        late.claim(0, 0, 25, 9);
        b.due("-", late.toCome(3, 3));
        b.due("0", late.toCome(2, 3));
    }

    // ---- section 7

    private void pools() {
        b.sentence("section 7", "POOLS 0 to 3 BEAR coins (0 to 99 each; 0 at first)");
        Poolward x = new Poolward();
        for (int pool = 0; pool < 4; pool++) {
            b.due("0", x.pool(pool, 0));
            b.due(0, x.bears(pool, 99));
            b.due("99", x.pool(pool, 0));
        }
        b.due(99, x.bears(3, 0));
        b.index(Poolward::new, y -> y.bears(4, 1), y -> y.bears(-1, 1));
        b.argument(Poolward::new, y -> y.bears(0, 100), y -> y.bears(0, -1));
        b.sentence("section 7", "a POOL hands on to another one some TENTHS (0 to 10; 0 at first)"
                + " of ALL that it has");
        for (int cell = 0; cell < 16; cell++) {
            b.due(0, x.tenths(cell / 4, cell % 4));
        }
        b.due(0, x.contract(0, 3, 10));
        b.due("99", x.pool(0, 1));
        b.due("0", x.pool(0, 2));
        b.due("99", x.pool(3, 2));
        b.due(10, x.contract(0, 3, 0));
        b.due("99", x.pool(0, 2));
        b.argument(Poolward::new, y -> y.contract(2, 2, 1), y -> y.contract(0, 1, 11),
                y -> y.contract(0, 1, -1));
        b.sentence("section 7", "together at most 10");
        b.notDone(-9, EdgesOfYears::handing, y -> y.contract(0, 3, 1), y -> y.contract(0, 1, 5),
                y -> y.contract(0, 2, 7));
        Poolward z = handing();
        b.due(4, z.contract(0, 1, 4));
        b.due(6, z.contract(0, 2, 5));
        b.due(0, z.contract(0, 3, 1));
    }

    private static Poolward handing() {
        Poolward x = new Poolward();
        x.bears(0, 10);
        x.contract(0, 1, 4);
        x.contract(0, 2, 6);
        return x;
    }

    private void rings() {
        b.sentence("section 7", "of what it BEARS and what others hand on to it (also in a ring)");
        Poolward x = new Poolward();
        x.bears(0, 10);
        x.contract(0, 1, 5);
        x.contract(1, 0, 5);
        b.due("40/3", x.pool(0, 1));
        b.due("20/3", x.pool(0, 2));
        b.due("10/3", x.pool(1, 2));
        Poolward y = ringOfFour(5);
        b.due("160/3", y.pool(0, 1));
        b.due("80/3", y.pool(1, 1));
        b.due("40/3", y.pool(2, 1));
        b.due("20/3", y.pool(3, 1));
        b.due("10/3", y.pool(3, 2));
        Poolward two = new Poolward();
        two.bears(0, 3);
        two.bears(3, 4);
        two.contract(0, 2, 5);
        two.contract(2, 0, 5);
        two.contract(1, 3, 10);
        two.contract(3, 1, 8);
        b.due("4", two.pool(0, 1));
        b.due("1", two.pool(2, 2));
        b.due("16", two.pool(1, 1));
        b.due("4", two.pool(3, 2));
        b.sentence("section 7", "ALL and HOLDS are not determined (for all POOLS),"
                + " if the equations for ALL have not just one solution");
        Poolward z = new Poolward();
        z.bears(3, 8);
        z.contract(0, 1, 10);
        b.due("8", z.pool(3, 2));
        z.contract(1, 0, 10);
        for (int pool = 0; pool < 4; pool++) {
            b.due("-", z.pool(pool, 1));
            b.due("-", z.pool(pool, 2));
            b.due(pool == 3 ? "8" : "0", z.pool(pool, 0));
        }
        b.due("-", z.owes());
        z.contract(1, 0, 9);
        b.due("8", z.pool(3, 1));
        b.due("-", ringOfFour(10).pool(2, 1));
        b.due("-", ringOfFour(10).owes());
    }

    private static Poolward ringOfFour(int tenths) {
        Poolward x = new Poolward();
        x.bears(0, 50);
        for (int pool = 0; pool < 4; pool++) {
            x.contract(pool, (pool + 1) % 4, tenths);
        }
        return x;
    }

    private void owes() {
        b.sentence("section 7", "each POOL should have HOLDS in the end, but BEARS at first");
        Poolward x = new Poolward();
        x.bears(0, 10);
        x.bears(3, 20);
        b.due("", x.owes());
        x.contract(0, 1, 5);
        b.due("1<0=5", x.owes());
        b.sentence("section 7", "again and again the first POOL that BEARS less than it HOLDS takes"
                + " over from the first one that BEARS more the lesser of both differences,"
                + " till none is left");
        x.contract(3, 1, 3);
        x.contract(3, 2, 2);
        b.due("1<0=5 1<3=6 2<3=4", x.owes());
        x.contract(1, 2, 10);
        b.due("2<0=5 2<3=10", x.owes());
        Poolward y = new Poolward();
        y.bears(0, 30);
        y.contract(0, 1, 3);
        y.contract(0, 2, 3);
        y.contract(0, 3, 4);
        b.due("1<0=9 2<0=9 3<0=12", y.owes());
    }
}
