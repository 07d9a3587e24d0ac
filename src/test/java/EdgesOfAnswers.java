/** The edges that the promises 22 to 56 name. */
final class EdgesOfAnswers {
    private static final String NO_SET = "one in set is no PERSON, or set is below 0";

    private final Boundaries b;

    EdgesOfAnswers(Boundaries b) {
        this.b = b;
    }

    void check() {
        cases();
        laws();
        atMost();
        markAndWorst();
        prices();
        sharing();
        gain();
        ruinAndLeast();
        lives();
        two();
        steps();
        queueAndRun();
        growthAndToCome();
        pools();
        owes();
        theHouse();
        isSound();
        digest();
        digestOfTheRest();
    }

    private static Poolward five() {
        Poolward x = new Poolward();
        for (int i = 0; i < 5; i++) {
            x.person(i % 3, 1 + i, 2 + i, 3 + i);
        }
        return x;
    }

    /** A person whose losses 0 and 8 are even. */
    private static Poolward even() {
        Poolward x = new Poolward();
        x.chances(0, 1, 1, 0, 2);
        x.person(0, 0, 8, 0);
        return x;
    }

    // ---- promises 22 to 30

    private void cases() {
        String spec = " 1:0-2! 1:0-2! 1:0-2!";
        b.ranges(22, "there is no such STATE", "", "chance" + spec);
        b.ranges(23, "there is no such STATE", "", "hit" + spec);
        b.due(31, five().hit(0, 0, 0));
        groupOfEach();
        b.ranges(24, "one in set is no PERSON, set is below 0, or there is no such STATE",
                "kind is not 0 to 4", "sum 5:0-7! 2:0-4" + spec);
        b.index(EdgesOfAnswers::five, x -> x.sum(32, 0, 0, 0, 0),
                x -> x.sum(Integer.MIN_VALUE | 1, 0, 0, 0, 0));
        b.due(15, five().sum(31, 0, 0, 0, 0));
    }

    /** The state of its own group is that by which a person is hit. */
    private void groupOfEach() {
        Poolward x = new Poolward();
        for (int group = 0; group < 3; group++) {
            x.person(group, 0, 1, 0);
        }
        for (int number = 0; number < 27; number++) {
            int a = number / 9;
            int c = number % 3;
            int due = (a == 1 ? 1 : 0) + (number / 3 % 3 == 1 ? 2 : 0) + (c == 1 ? 4 : 0);
            b.due(due, x.hit(a, number / 3 % 3, c));
        }
    }

    private void laws() {
        String spec = " 5:0-7! 2:0-4";
        b.ranges(25, NO_SET, "kind is not 0 to 4", "law" + spec);
        b.index(EdgesOfAnswers::five, x -> x.law(32, 0), x -> x.law(Integer.MIN_VALUE, 5));
        b.due("15:1", five().law(31, 0));
        b.due("0:1", five().law(0, 0));
        b.ranges(26, NO_SET, "kind is not 0 to 4", "mean" + spec);
        b.index(EdgesOfAnswers::five, x -> x.mean(32, 0));
        b.due("15", five().mean(31, 4));
        b.ranges(27, NO_SET, "kind is not 0 to 4", "spread" + spec);
        b.index(EdgesOfAnswers::five, x -> x.spread(32, 0));
        b.due("0", five().spread(31, 4));
    }

    private void atMost() {
        b.sentence("Promise 28", "Returns the chance that the sum is not above that");
        b.due("0", even().atMost(1, 0, -1));
        b.due("1/2", even().atMost(1, 0, 0));
        b.due("1/2", even().atMost(1, 0, 7));
        b.due("1", even().atMost(1, 0, 8));
        b.due("1", even().atMost(1, 0, Integer.MAX_VALUE));
        b.due("0", even().atMost(1, 0, Integer.MIN_VALUE));
        b.due("0", even().atMost(0, 0, -1));
        b.due("1", even().atMost(0, 0, 0));
        b.ranges(28, NO_SET, "kind is not 0 to 4", "atMost 5:0-7! 2:0-4 9");
    }

    private void markAndWorst() {
        String spec = " 5:0-7! 2:0-4 1:0-99 2:0-99";
        b.sentence("Promise 29", "-8 if bottom is 0");
        b.notDone(-8, Houses::furnished, x -> x.mark(1, 0, 0, 0), x -> x.mark(1, 0, 99, 0));
        b.sentence("Promise 29", "-9 if u is not above 0, or above 1");
        b.notDone(-9, Houses::furnished, x -> x.mark(1, 0, 0, 1), x -> x.mark(1, 0, 0, 99),
                x -> x.mark(1, 0, 99, 98), x -> x.mark(1, 0, 2, 1));
        b.due(0, even().mark(1, 0, 1, 99));
        b.due(8, even().mark(1, 0, 99, 99));
        b.ranges(29, NO_SET, "kind is not 0 to 4, or top or bottom not 0 to 99", "mark" + spec);
        b.sentence("Promise 30", "\"-\" if bottom is 0, or u not above 0, or above 1");
        int[][] not = {{0, 0}, {1, 0}, {99, 0}, {0, 1}, {0, 99}, {99, 98}, {2, 1}};
        for (int[] u : not) {
            b.due("-", even().worst(1, 0, u[0], u[1]));
        }
        b.due("8", even().worst(1, 0, 1, 99));
        b.due("4", even().worst(1, 0, 99, 99));
        b.due("8", even().worst(1, 0, 49, 99));
        b.due("198/25", even().worst(1, 0, 50, 99));
        b.ranges(30, NO_SET, "kind is not 0 to 4, or top or bottom not 0 to 99", "worst" + spec);
    }

    // ---- promises 31 to 36

    private void prices() {
        b.ranges(31, NO_SET, "rule is not 0 to 3", "price 5:0-7! 1:0-3");
        b.index(EdgesOfAnswers::five, x -> x.price(32, 0));
        b.due("15", five().price(31, 3));
        b.ranges(32, "one in set is no PERSON, set is below 0, or there is no such PERSON",
                "rule is not 0 to 3, or that PERSON is not in the SET",
                "share 7:0-7! 1:0-2! 1:0-3");
        b.argument(EdgesOfAnswers::five, x -> x.share(0, 0, 0), x -> x.share(30, 0, 0),
                x -> x.share(15, 4, 3), x -> x.share(15, 4, 4));
        b.index(EdgesOfAnswers::five, x -> x.share(32, 0, 0), x -> x.share(15, 5, 0),
                x -> x.share(15, -1, 0), x -> x.share(0, 5, 4));
        b.due("5", five().share(16, 4, 1));
        b.due("5", five().share(31, 4, 2));
    }

    private void sharing() {
        b.sentence("Promise 33", "if there is none \"!\" and the texts of the SETS of the PROOF,"
                + " as they are told, each with \" \" ahead");
        Poolward x = even();
        x.person(0, 0, 4, 0);
        x.person(0, 9, 0, 0);
        x.load(1, 1);
        b.due("! 0 1", x.sharing(3, 2));
        x.loss(0, 1, 12);
        b.due("! 1 0,2", x.sharing(7, 2));
        x.load(0, 1);
        b.due("0=6 1=2", x.sharing(3, 2));
        b.ranges(33, NO_SET, "rule is not 0 to 3, or there are not two or three in the SET",
                "sharing 3:0-7! 1:0-3");
        b.index(EdgesOfAnswers::five, y -> y.sharing(32, 0), y -> y.sharing(33, 4));
        b.argument(EdgesOfAnswers::five, y -> y.sharing(0, 0), y -> y.sharing(1, 0),
                y -> y.sharing(16, 0), y -> y.sharing(15, 0), y -> y.sharing(30, 0),
                y -> y.sharing(31, 0), y -> y.sharing(3, 4), y -> y.sharing(7, -1));
        b.due("3=4 4=5", five().sharing(24, 0));
        b.due("0=1 1=2 4=5", five().sharing(19, 3));
    }

    private void gain() {
        b.ranges(34, "there is no such PERSON or STATE", "coins is not 0 to 12, or rule not 0 to 3",
                "gain 1:0-2! 1:0-2! 5:0-12 1:0-3");
        b.index(EdgesOfAnswers::five, x -> x.gain(5, 0, 0, 0));
        b.due("5", five().gain(4, 0, 0, 0));
        b.due("-7", five().gain(4, 0, 12, 3));
        Poolward x = even();
        x.gain(0, 1, 12, 2);
        b.due("0:1/2 8:1/2", x.law(1, 0));
        b.due(2, x.house(8));
    }

    private void ruinAndLeast() {
        b.ranges(35, "", "money is not 0 to 60, income not 0 to 12, or years not 1 to 3",
                "ruin 9:0-60 5:0-12 2:1-3");
        b.due("0", even().ruin(60, 12, 3));
        b.due("1/2", even().ruin(0, 0, 1));
        b.due("7/8", even().ruin(0, 0, 3));
        b.sentence("Promise 36", "-8 if bottom is 0");
        b.notDone(-8, Houses::furnished, x -> x.least(5, 2, 0, 0), x -> x.least(12, 3, 99, 0));
        b.ranges(36, "", "income is not 0 to 12, years not 1 to 3, or top or bottom not 0 to 99",
                "least 5:0-12 2:1-3 1:0-99 9:0-99");
        b.due(8, even().least(0, 1, 0, 99));
        b.due(0, even().least(0, 1, 99, 1));
        b.due(24, even().least(0, 3, 1, 9));
        b.due(16, even().least(0, 3, 1, 8));
    }

    // ---- promises 37 to 45

    private void lives() {
        b.ranges(37, "there is no such TABLE", "", "premium 0:0-1!");
        b.sentence("Promise 38", "a LIFE YEAR, or TERM (the end of the last one)");
        Poolward x = new Poolward();
        x.policy(0, 6, 10, 20, 30);
        b.due("30", x.putBy(0, 6, false));
        b.due("25", x.putBy(0, 5, false));
        b.due("50", x.putBy(0, 5, true));
        b.due("0", x.putBy(0, 0, false));
        b.due("150", x.putBy(0, 0, true));
        b.sentence("Promise 38", "whether for who is ILL, otherwise WELL");
        b.due("130", x.putBy(0, 1, true));
        b.due("5", x.putBy(0, 1, false));
        b.ranges(38, "there is no such TABLE, or year is not 0 to TERM", "",
                "putBy 0:0-1! 1:0-3! 1");
        b.index(Houses::furnished, y -> y.putBy(1, 3, false), y -> y.putBy(0, 4, true));
        b.due("40", Houses.furnished().putBy(1, 2, false));
        b.sentence("Promise 39", "how many LIFE YEARS have gone by, 0 to 6");
        Poolward z = new Poolward();
        for (int year = 0; year < 6; year++) {
            z.table(0, year, 0, 50, 0);
        }
        String[] well = {"1", "1/2", "1/4", "1/8", "1/16", "1/32", "1/64"};
        for (int years = 0; years <= 6; years++) {
            b.due(well[years], z.life(0, years, 0));
        }
        b.ranges(39, "there is no such TABLE", "years is not 0 to 6, or what not 0 to 2",
                "life 0:0-1! 2:0-6 1:0-2");
    }

    private void two() {
        Poolward x = new Poolward();
        x.table(0, 0, 0, 50, 0);
        x.table(1, 1, 0, 50, 0);
        x.interest(25);
        b.sentence("Promise 40", "how many LIFE YEARS, 0 to 6");
        b.due("1", x.two(0, true, false));
        b.due("1", x.two(0, false, false));
        b.due("0", x.two(0, true, true));
        b.due("0", x.two(0, false, true));
        b.due("1/4", x.two(6, true, false));
        b.sentence("Promise 40", "whether both of two lives LIVE, otherwise at least one");
        b.due("1/2", x.two(1, true, false));
        b.due("1", x.two(1, false, false));
        b.due("1/4", x.two(2, true, false));
        b.due("3/4", x.two(2, false, false));
        b.sentence("Promise 40", "a coin is paid at the end of each of so many LIFE YEARS,"
                + " if they LIVE so then");
        b.due("2/5", x.two(1, true, true));
        b.due("14/25", x.two(2, true, true));
        b.due("32/25", x.two(2, false, true));
        b.sentence("Promise 40", "otherwise the chance that they LIVE so behind so many");
        b.due("3/4", x.two(6, false, false));
        b.ranges(40, "", "years is not 0 to 6", "two 3:0-6 0 1");
        b.argument(Houses::furnished, y -> y.two(7, true, false), y -> y.two(-1, false, true));
    }

    private void steps() {
        b.ranges(41, "there is no such STEP", "", "longRun 1:0-4!");
        for (int promise = 43; promise <= 45; promise++) {
            String name = promise == 43 ? "cost" : promise == 44 ? "hurdle" : "pays";
            b.ranges(promise, "there is no such STEP", "years is not 0 to 6", name + " 2:0-4! 3:0-6");
        }
        Poolward x = new Poolward();
        b.due("600", x.cost(4, 6));
        b.due("0", x.hurdle(4, 6));
        b.due(false, x.pays(0, 6));
    }

    // ---- promises 46 to 49

    private static Poolward claimed() {
        Poolward x = five();
        x.claim(0, 24, 1, 3);
        x.claim(4, 0, 24, 5);
        x.claim(2, 75, 24, 7);
        return x;
    }

    private void queueAndRun() {
        b.sentence("Promise 46",
                "Returns of the QUEUE those that were told on that day at the latest");
        b.due("", claimed().queue(0));
        b.due("", claimed().queue(23));
        b.due("1@24", claimed().queue(24));
        b.due("1@24 0@25", claimed().queue(25));
        b.due("1@24 0@25", claimed().queue(98));
        b.due("1@24 0@25 2@99", claimed().queue(99));
        b.due("", five().queue(99));
        b.ranges(46, "", "day is not 0 to 99", "queue 50:0-99");
        b.ranges(47, "", "i or j is not 0 to 3", "run 1:0-3 1:0-3");
        b.due(5, claimed().run(0, 0));
        b.due(8, claimed().run(0, 3));
        b.due(7, claimed().run(3, 0));
        b.due(7, claimed().run(3, 3));
        b.due(0, claimed().run(1, 3));
    }

    private void growthAndToCome() {
        b.ranges(48, "", "j is not 0 to 2, or t not 0 to 3", "growth 1:0-2 2:0-3");
        b.due("8/5", claimed().growth(0, 1));
        b.due("-", claimed().growth(0, 0));
        b.sentence("Promise 49", "a CLAIM YEAR, not ahead of it");
        b.due("0", claimed().toCome(0, 0));
        b.due("0", claimed().toCome(1, 1));
        b.due("21/5", claimed().toCome(3, 3));
        b.ranges(49, "", "i or t is not 0 to 3, or t is less than i", "toCome 1:0-3 2:0-3");
        b.argument(EdgesOfAnswers::claimed, x -> x.toCome(1, 0), x -> x.toCome(3, 2),
                x -> x.toCome(3, 0), x -> x.toCome(4, 4));
    }

    // ---- promises 50 to 52

    private void pools() {
        b.sentence("Promise 50", "(0 to itself)");
        for (int pool = 0; pool < 4; pool++) {
            b.due(0, Houses.furnished().tenths(pool, pool));
        }
        b.due(3, Houses.furnished().tenths(1, 2));
        b.due(0, Houses.furnished().tenths(2, 1));
        b.ranges(50, "there is no such POOL (both)", "", "tenths 1:0-3! 2:0-3!");
        b.ranges(51, "there is no such POOL", "what is not 0 to 2", "pool 1:0-3! 1:0-2");
    }

    private void owes() {
        b.sentence("Promise 52", "\"\" if nothing has to be taken over");
        Poolward x = new Poolward();
        b.due("", x.owes());
        x.contract(0, 1, 10);
        b.due("", x.owes());
        x.bears(1, 99);
        b.due("", x.owes());
        x.bears(0, 99);
        b.due("1<0=99", x.owes());
        b.sentence("Promise 52", "\"-\" if HOLDS is not determined");
        x.contract(1, 0, 9);
        b.due("1<0=99", x.owes());
        x.contract(1, 0, 10);
        b.due("-", x.owes());
        x.bears(0, 0);
        x.bears(1, 0);
        b.due("-", x.owes());
    }

    // ---- promises 53 to 56

    private void theHouse() {
        b.sentence("Promise 53", "0 GROUP, 1 to 3 LOSSES, 4 BOUND, 5 STEP, 6 BORNE");
        Poolward x = new Poolward();
        x.person(2, 7, 9, 11);
        x.bound(0, 8);
        x.year(0, 0, 1);
        int[] due = {2, 7, 9, 11, 8, 1, 8};
        for (int what = 0; what < 7; what++) {
            b.due(due[what], x.ofPerson(0, what));
        }
        b.ranges(53, "there is no such PERSON", "what is not 0 to 6", "ofPerson 1:0-2! 3:0-6");
        b.index(EdgesOfAnswers::five, y -> y.ofPerson(5, 0));
        b.due(5, five().ofPerson(4, 1));
        b.sentence("Promise 54", "0 PERSONS, 1 LAYERS, 2 CLAIMS, 3 MONEY, 4 INCOME, 5 INTEREST,"
                + " 6 SIZE, 7 DROP, 8 how many can be undone, 9 how often it was knocked");
        Poolward y = Houses.furnished();
        int[] house = {3, 2, 2, 7, 5, 10, 40, 2, 8, 1};
        int[] first = {0, 0, 0, 0, 0, 0, 0, 1, 0, 0};
        for (int what = 0; what < 10; what++) {
            b.due(house[what], y.house(what));
            b.due(first[what], new Poolward().house(what));
        }
        b.ranges(54, "", "what is not 0 to 9", "house 3:0-9");
    }

    /** A house of so many persons, in which what they bear and what is sold differ. */
    private static Poolward mixed(int persons) {
        Poolward x = new Poolward();
        x.chances(0, 1, 1, 1, 3);
        x.chances(1, 2, 3, 5, 10);
        x.chances(2, 7, 0, 4, 11);
        for (int person = 0; person < persons; person++) {
            x.person(person % 3, 12 - 2 * person, person, 5 + person);
            x.bound(person, 1 + person);
        }
        x.layer(2, 3);
        x.layer(9, 20);
        x.load(1, 3);
        x.tail(2, 7);
        x.till(8, 9);
        return x;
    }

    private void isSound() {
        b.sentence("Promise 55", "with two PERSONS or more the SHARING by the RULE 2 of the first"
                + " ones (three, if there are so many) is in no group's way,"
                + " or the PROOF is less than all");
        for (int persons = 0; persons <= 5; persons++) {
            b.due(true, mixed(persons).isSound());
        }
        Poolward proven = even();
        proven.load(2, 1);
        for (int i = 1; i < 5; i++) {
            proven.person(0, 0, 4 + i, 0);
            b.due(true, proven.isSound());
        }
        b.due("! 0 1 2", proven.sharing(7, 2));
        b.sentence("Promise 55", "all POOLS together HOLD what they BEAR, if it is determined");
        Poolward x = Houses.furnished();
        b.due(true, x.isSound());
        x.contract(0, 3, 10);
        x.contract(3, 0, 10);
        b.due("-", x.pool(1, 2));
        b.due(true, x.isSound());
    }

    private void digest() {
        b.sentence("Promise 56", "house() of 0 to 9");
        b.due(Digest.by(new Poolward()), new Poolward().digest());
        b.due(Digest.by(Houses.furnished()), Houses.furnished().digest());
        Poolward x = new Poolward();
        x.knock();
        b.due(false, x.digest() == new Poolward().digest());
        b.sentence("Promise 56", "PERSON by PERSON ofPerson() of 0 to 6");
        for (int persons = 0; persons <= 5; persons++) {
            b.due(Digest.by(mixed(persons)), mixed(persons).digest());
        }
        b.sentence("Promise 56", "the lengths of spread() of all PERSONS for the KIND 2,"
                + " and of price() of all by the RULES 0 to 3");
        Poolward y = mixed(4);
        y.load(67, 71);
        y.tail(13, 17);
        b.due(Digest.by(y), y.digest());
        b.sentence("Promise 56", "with two or three PERSONS the codes of the signs of sharing()");
        Poolward proven = even();
        proven.load(1, 1);
        for (int i = 1; i < 5; i++) {
            proven.person(0, 0, 4 + i, 0);
            b.due(Digest.by(proven), proven.digest());
        }
    }

    private void digestOfTheRest() {
        b.sentence("Promise 56", "the length of ruin() with the MONEY 9, INCOME and two YEARS");
        Poolward x = even();
        b.due(Digest.by(x), x.digest());
        x.loss(0, 1, 9);
        x.loss(0, 0, 5);
        x.chances(0, 17, 13, 0, 30);
        b.due(Digest.by(x), x.digest());
        b.sentence("Promise 56", "of hurdle() of the STEP 2 and three years");
        Poolward y = new Poolward();
        for (int step = 0; step < 5; step++) {
            y.rate(step, 300 - 61 * step - step * step);
        }
        y.harm(7, 97, 33, 2);
        b.due(Digest.by(y), y.digest());
        b.sentence("Promise 56", "the codes of the signs of queue(99)");
        Poolward z = claimed();
        z.claim(1, 30, 40, 13);
        z.claim(1, 26, 0, 17);
        z.claim(1, 51, 10, 19);
        b.due(Digest.by(z), z.digest());
        b.sentence("Promise 56", "the codes of the signs of owes()");
        Poolward w = new Poolward();
        w.bears(0, 71);
        w.contract(0, 3, 3);
        w.contract(3, 1, 7);
        w.contract(1, 0, 2);
        b.due(Digest.by(w), w.digest());
        b.sentence("Promise 56", "1 if isSound(), otherwise 0");
        long ahead = Digest.ofAllButSound(w);
        b.due(ahead * 31 + 1, w.digest());
    }
}
