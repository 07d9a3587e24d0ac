/** The edges that the document's introduction and its sections 1 to 3 name. */
final class EdgesOfPeople {
    private final Boundaries b;

    EdgesOfPeople(Boundaries b) {
        this.b = b;
    }

    void check() {
        calls();
        fractions();
        refusals();
        exceptions();
        groupsAndPersons();
        cases();
        layers();
        laws();
        loadAndTail();
        prices();
        sharings();
        proofs();
        ruin();
        years();
    }

    /** Group 0 with two even chances, and a person in it. */
    private static Poolward even(int one, int other) {
        Poolward x = new Poolward();
        x.chances(0, 1, 1, 0, 2);
        x.person(0, one, other, 0);
        return x;
    }

    private static Poolward three(int[] first, int[] second, int[] third) {
        Poolward x = even(first[0], first[1]);
        x.person(0, second[0], second[1], 0);
        x.person(0, third[0], third[1], 0);
        x.load(1, 1);
        return x;
    }

    private static Poolward five(int coins) {
        Poolward x = new Poolward();
        for (int i = 0; i < 5; i++) {
            x.person(i % 3, coins, coins, coins);
        }
        return x;
    }

    private static Poolward layered() {
        Poolward x = new Poolward();
        x.layer(3, 4);
        return x;
    }

    private static Poolward layeredThrice() {
        Poolward x = layered();
        x.layer(20, 1);
        x.layer(10, 2);
        return x;
    }

    // ---- what holds for all

    private void calls() {
        b.sentence("What it is",
                "An object is used for at most 512 calls after it has been made");
        Poolward x = new Poolward();
        for (int i = 1; i < 512; i++) {
            x.knock();
        }
        b.due(512, x.knock());
        Poolward last = new Poolward();
        Model model = new Model();
        last.person(0, 3, 4, 5);
        model.person(0, 3, 4, 5);
        for (int i = 2; i < 512; i++) {
            last.till(i % 61, i % 13);
            model.till(i % 61, i % 13);
        }
        b.due(model.digest(), last.digest());
    }

    private void fractions() {
        b.sentence("Description", "a text in lowest terms, \"3/4\", \"-1/2\", \"5\" (if it is whole)");
        Poolward x = new Poolward();
        x.chances(0, 2, 6, 0, 8);
        b.due("1/4", x.chance(0, 0, 0));
        b.due("3/4", x.chance(1, 0, 0));
        b.due("0", x.chance(2, 0, 0));
        Poolward y = even(0, 0);
        b.due("-1/2", y.gain(0, 1, 1, 0));
        b.due("-6", y.gain(0, 1, 12, 0));
        b.due("5", five(5).mean(1, 0));
        b.due("1", five(5).chance(0, 0, 0));
        b.sentence("Description", "\"-\" if it is not determined");
        b.due("-", new Poolward().growth(0, 0));
        b.due("-", new Poolward().worst(0, 0, 1, 0));
        b.sentence("Description", "Numbers of things start with 0");
        b.due(0, x.person(0, 1, 2, 3));
        b.due(0, x.layer(0, 1));
        b.due(0, x.claim(0, 0, 0, 1));
        b.sentence("Description", "its text: its numbers, rising, with \",\" between (\"\" without any)");
        b.due("! 1 0,2", three(new int[] {0, 12}, new int[] {0, 4}, new int[] {9, 0}).sharing(7, 2));
    }

    private void refusals() {
        b.sentence("Description", "-9: it is LET, but cannot be done");
        b.notDone(-9, Houses::furnished,
                x -> x.chances(0, 1, 1, 1, 4), x -> x.layer(5, 1), x -> x.load(3, 1),
                x -> x.tail(0, 1), x -> x.table(0, 0, 60, 41, 0), x -> x.harm(2, 1, 0, 1),
                x -> x.contract(1, 3, 8), x -> x.mark(1, 0, 0, 1));
        b.sentence("Description", "-8: likewise, as something would be divided by 0");
        b.notDone(-8, Houses::furnished,
                x -> x.chances(0, 1, 1, 1, 0), x -> x.load(1, 0), x -> x.tail(1, 0),
                x -> x.harm(1, 0, 9, 3), x -> x.mark(1, 0, 1, 0), x -> x.least(1, 1, 1, 0));
        b.sentence("Description", "nothing is changed then");
        b.notDone(-9, Houses::furnished, x -> x.harm(99, 98, 499, 4), x -> x.load(99, 49));
        b.notDone(-8, Houses::furnished, x -> x.harm(0, 0, 499, 4), x -> x.tail(99, 0));
        b.sentence("Description", "Where one of several is taken and nothing else is said,"
                + " it is that with the smallest number");
        Poolward y = new Poolward();
        y.bears(2, 10);
        y.bears(3, 10);
        for (int pool = 2; pool < 4; pool++) {
            y.contract(pool, 0, 5);
            y.contract(pool, 1, 5);
        }
        b.due("0<2=10 1<3=10", y.owes());
    }

    private void exceptions() {
        b.sentence("Description", "A method that throws an exception changes nothing");
        b.index(Houses::furnished, x -> x.year(0, 0, 3), x -> x.unlayer(2),
                x -> x.loss(3, 0, 1), x -> x.contract(0, 4, 1));
        b.argument(Houses::furnished, x -> x.loss(0, 0, 13), x -> x.gain(0, 0, 13, 0),
                x -> x.policy(0, 7, 1, 2, 3), x -> x.harm(1, 2, 3, 5));
        b.state(() -> five(3), x -> x.person(0, 1, 2, 3));
        b.state(Poolward::new, x -> x.undo());
        b.sentence("Description", "If several exceptions apply, the one that is named first is thrown");
        b.index(Houses::furnished, x -> x.chances(3, 61, 0, 0, 0), x -> x.loss(3, 0, 13),
                x -> x.sum(8, 5, 0, 0, 0), x -> x.sum(1, 5, 0, 3, 0), x -> x.share(1, 3, 4));
        b.index(() -> five(3), x -> x.person(3, 13, 0, 0), x -> x.person(-1, 0, 0, 0));
        b.argument(() -> five(3), x -> x.person(0, 13, 0, 0));
        b.argument(EdgesOfPeople::layeredThrice, x -> x.layer(60, 1), x -> x.layer(3, 0));
        b.sentence("Description", "exceptions go ahead of -8, that ahead of -9");
        b.argument(Houses::furnished, x -> x.chances(0, 61, 0, 0, 0), x -> x.load(100, 0),
                x -> x.tail(100, 0), x -> x.harm(1, 0, 501, 1), x -> x.harm(2, 1, 0, 0),
                x -> x.mark(1, 5, 1, 0), x -> x.least(13, 1, 1, 0));
        b.state(EdgesOfPeople::layeredThrice, x -> x.layer(3, 4));
        b.notDone(-8, Houses::furnished, x -> x.chances(0, 1, 2, 3, 0), x -> x.load(99, 0),
                x -> x.tail(0, 0), x -> x.harm(99, 0, 1, 1), x -> x.mark(1, 0, 0, 0));
    }

    // ---- section 1

    private void groupsAndPersons() {
        b.sentence("section 1", "three GROUPS (0 to 2), each with three STATES (0 to 2)");
        Poolward x = new Poolward();
        for (int group = 0; group < 3; group++) {
            b.due(1, x.chances(group, 0, 0, 1, 1));
        }
        b.due("1", x.chance(2, 2, 2));
        b.due("0", x.chance(2, 2, 0));
        b.due("0", x.chance(0, 0, 0));
        b.index(Poolward::new, y -> y.chances(3, 1, 0, 0, 1), y -> y.chances(-1, 1, 0, 0, 1),
                y -> y.chance(3, 0, 0), y -> y.chance(0, -1, 0), y -> y.person(3, 0, 0, 0));
        b.sentence("section 1", "their CHANCES are told, one together (1, 0, 0 at first)");
        Poolward fresh = new Poolward();
        for (int number = 0; number < 27; number++) {
            b.due(number == 0 ? "1" : "0",
                    fresh.chance(number / 9, number / 3 % 3, number % 3));
        }
        b.notDone(-9, Poolward::new,
                y -> y.chances(0, 1, 1, 1, 2), y -> y.chances(0, 1, 1, 1, 4));
        b.sentence("section 1", "PERSONS, at most 5");
        b.due(5, five(1).house(0));
        b.state(() -> five(1), y -> y.person(0, 0, 0, 0));
        b.sentence("section 1", "a LOSS (0 to 12) for each STATE of it");
        b.due(0, fresh.person(1, 0, 12, 0));
        b.due(12, fresh.sum(1, 0, 0, 1, 0));
        b.due(0, fresh.sum(1, 0, 0, 2, 0));
        b.argument(Poolward::new, y -> y.person(0, 13, 0, 0), y -> y.person(0, 0, 0, -1));
        b.sentence("section 1", "a BOUND (0 to 12; 0 at first)");
        b.due(0, fresh.ofPerson(0, 4));
        b.due(0, fresh.sum(1, 1, 0, 1, 0));
        b.due(0, fresh.bound(0, 12));
        b.due(12, fresh.sum(1, 1, 0, 1, 0));
        b.argument(() -> five(1), y -> y.bound(0, 13), y -> y.bound(0, -1));
    }

    private void cases() {
        b.sentence("section 1", "HIT by a CASE are the PERSONS whose LOSS is above 0");
        Poolward x = new Poolward();
        x.person(0, 0, 1, 12);
        x.person(1, 1, 0, 0);
        x.bound(0, 12);
        b.due(2, x.hit(0, 0, 0));
        b.due(3, x.hit(1, 0, 0));
        b.due(1, x.hit(2, 1, 0));
        b.due(0, x.hit(0, 2, 2));
        b.sentence("section 1", "OWN is its LOSS, but at most its BOUND");
        Poolward y = new Poolward();
        y.person(0, 4, 5, 6);
        y.bound(0, 5);
        int[] owns = {4, 5, 5};
        for (int state = 0; state < 3; state++) {
            b.due(owns[state], y.sum(1, 1, state, 0, 0));
            b.due(state == 2 ? 1 : 0, y.sum(1, 2, state, 0, 0));
        }
    }

    private void layers() {
        b.sentence("section 1", "LAYERS, at most 3, numbered from 0 as they come"
                + " (if one goes, those behind it move up)");
        Poolward x = new Poolward();
        x.person(0, 2, 3, 0);
        for (int from = 0; from < 3; from++) {
            b.due(from, x.layer(from, 1));
        }
        b.state(EdgesOfPeople::layeredThrice, y -> y.layer(40, 1));
        b.due(2, x.unlayer(0));
        b.due(1, x.sum(1, 3, 0, 0, 0));
        b.due(1, x.unlayer(0));
        b.due(0, x.sum(1, 3, 0, 0, 0));
        b.due(1, x.sum(1, 3, 1, 0, 0));
        b.sentence("section 1", "each has a FROM (0 to 59) and a WIDTH (1 to 60)");
        Poolward whole = five(12);
        whole.layer(0, 60);
        b.due(60, whole.sum(31, 3, 0, 0, 0));
        b.due(0, whole.sum(31, 4, 0, 0, 0));
        Poolward top = five(12);
        b.due(0, top.layer(59, 60));
        b.due(1, top.sum(31, 3, 0, 0, 0));
        b.due(0, top.sum(30, 3, 0, 0, 0));
        b.argument(Poolward::new, y -> y.layer(60, 1), y -> y.layer(-1, 1), y -> y.layer(0, 0),
                y -> y.layer(0, 61));
        b.sentence("section 1", "they do not lie over each other (one from 3 with the WIDTH 4 takes"
                + " the coins above 3 up to 7; side by side is let)");
        b.notDone(-9, EdgesOfPeople::layered, y -> y.layer(3, 4), y -> y.layer(2, 2),
                y -> y.layer(6, 1), y -> y.layer(4, 1), y -> y.layer(0, 60), y -> y.layer(6, 60),
                y -> y.layer(0, 4), y -> y.layer(3, 1));
        Poolward sides = layered();
        b.due(1, sides.layer(7, 60));
        b.due(2, sides.layer(2, 1));
        layerSums();
    }

    private void layerSums() {
        b.sentence("section 1", "of each one what POOLED is above FROM, but at most its WIDTH");
        Poolward x = layered();
        x.person(0, 3, 4, 7);
        x.person(0, 0, 0, 1);
        int[] sold = {0, 1, 4};
        for (int state = 0; state < 3; state++) {
            b.due(sold[state], x.sum(1, 3, state, 0, 0));
        }
        b.due(4, x.sum(3, 3, 2, 0, 0));
        b.due(4, x.sum(3, 4, 2, 0, 0));
        x.layer(7, 3);
        b.due(5, x.sum(3, 3, 2, 0, 0));
    }

    private void laws() {
        b.sentence("section 1", "each sum that comes in some CASE with a CHANCE above 0,"
                + " with the CHANCES of all these CASES together");
        Poolward x = new Poolward();
        x.person(0, 3, 7, 3);
        b.due("3:1", x.law(1, 0));
        x.chances(0, 1, 1, 1, 3);
        b.due("3:2/3 7:1/3", x.law(1, 0));
        x.chances(0, 1, 0, 1, 2);
        b.due("3:1", x.law(1, 0));
        b.sentence("section 1", "MARK for a FRACTION u (above 0, at most 1)");
        Poolward y = even(0, 8);
        b.due(0, y.mark(1, 0, 1, 99));
        b.due(8, y.mark(1, 0, 99, 99));
        b.notDone(-9, () -> even(0, 8), z -> z.mark(1, 0, 0, 99), z -> z.mark(1, 0, 99, 98));
        b.sentence("section 1", "the least sum of the LAW so that it or less comes"
                + " with a chance of u or more");
        b.due(0, y.mark(1, 0, 1, 2));
        b.due(0, y.mark(1, 0, 49, 99));
        b.due(8, y.mark(1, 0, 50, 99));
        b.sentence("section 1", "of the greatest sums, as many as have the chance u together"
                + " (of the least one of them just as much chance as is wanted)");
        b.due("8", y.worst(1, 0, 1, 4));
        b.due("8", y.worst(1, 0, 1, 2));
        b.due("16/3", y.worst(1, 0, 3, 4));
        b.due("4", y.worst(1, 0, 1, 1));
    }

    // ---- section 2

    private void loadAndTail() {
        b.sentence("section 2", "LOAD (a FRACTION of 0 to 2; 0 at first)");
        Poolward x = even(0, 8);
        b.due("4", x.price(1, 0));
        b.due("4", x.price(1, 2));
        b.due(0, x.load(0, 99));
        b.due(1, x.load(2, 1));
        b.due("12", x.price(1, 0));
        b.due("36", x.price(1, 2));
        b.due(0, x.load(98, 49));
        b.notDone(-9, () -> even(0, 8), y -> y.load(99, 49), y -> y.load(3, 1));
        b.sentence("section 2", "TAIL (above 0, at most 1; 1 at first)");
        b.due("4", x.price(1, 1));
        b.due(0, x.tail(99, 99));
        b.due(1, x.tail(1, 99));
        b.due("8", x.price(1, 1));
        b.notDone(-9, () -> even(0, 8), y -> y.tail(0, 99), y -> y.tail(99, 98));
    }

    private void prices() {
        b.sentence("section 2", "3 the greatest sum");
        Poolward x = new Poolward();
        x.person(0, 3, 8, 12);
        b.due("3", x.price(1, 3));
        x.chances(0, 1, 1, 0, 2);
        b.due("8", x.price(1, 3));
        b.sentence("section 2", "(Of no PERSONS 0.)");
        Poolward y = five(12);
        y.load(2, 1);
        y.tail(1, 9);
        for (int rule = 0; rule < 4; rule++) {
            b.due("0", y.price(0, rule));
            b.due("0", new Poolward().price(0, rule));
        }
        b.sentence("section 2",
                "over all orders in which the PERSONS of the SET may come, the mean of by how much");
        Poolward z = even(0, 8);
        z.person(0, 8, 0, 0);
        z.load(1, 1);
        b.due("20", z.share(1, 0, 2));
        b.due("4", z.share(3, 0, 2));
        z.person(1, 2, 2, 2);
        b.due("2", z.share(7, 2, 2));
        b.sentence("section 2", "its FAIR SHARE of all PERSONS by a RULE, less that which it would"
                + " have, if its LOSS in a STATE were another one");
        b.due("0", z.gain(0, 1, 8, 2));
        b.due("8", z.gain(0, 1, 0, 0));
        b.due("-4", z.gain(0, 1, 12, 0));
        b.due("0", z.gain(0, 2, 12, 3));
        b.due(8, z.ofPerson(0, 2));
    }

    private static Poolward rising() {
        Poolward x = new Poolward();
        for (int coins = 1; coins <= 5; coins++) {
            x.person(0, coins, coins, coins);
        }
        return x;
    }

    private void sharings() {
        b.sentence("section 2", "SHARING of a SET of two or three PERSONS"
                + " (its first, second, third one by their numbers)");
        b.due("1=2 3=4", rising().sharing(10, 0));
        b.due("0=1 2=3 4=5", rising().sharing(21, 0));
        b.argument(EdgesOfPeople::rising, x -> x.sharing(0, 0), x -> x.sharing(4, 0),
                x -> x.sharing(15, 0), x -> x.sharing(31, 0));
        b.sentence("section 2", "each bears a FRACTION (it may be below 0), together the PRICE of"
                + " all, so that no PERSONS of them bear more together than their PRICE alone");
        Poolward x = even(0, 8);
        x.person(0, 8, 0, 0);
        b.due("0=4 1=4", x.sharing(3, 0));
        x.load(1, 1);
        b.due("0=-12 1=20", x.sharing(3, 2));
        b.sentence("section 2", "The told one is that in which the first one bears the least,"
                + " of these that in which the second one does");
        Poolward y = new Poolward();
        y.chances(0, 1, 1, 0, 2);
        y.person(1, 4, 4, 4);
        y.person(0, 8, 0, 0);
        y.person(0, 0, 6, 0);
        b.due("0=4 1=2 2=6", y.sharing(7, 3));
        int[] up = {0, 8};
        b.due("0=-12 1=20 2=3", three(up, new int[] {8, 0}, new int[] {3, 1}).sharing(7, 2));
    }

    private void proofs() {
        int[] small = {0, 4};
        int[] alike = {0, 12};
        int[] other = {9, 0};
        b.sentence("section 2", "If there is none: FAMILIES: of two: each alone");
        b.due("! 0 1", three(small, alike, other).sharing(3, 2));
        b.sentence("section 2", "Of three, in this order: each alone");
        b.due("! 0 1 2", three(small, alike, alike).sharing(7, 2));
        b.sentence("section 2", "the first one and the two others");
        b.due("! 0 1,2", three(small, alike, other).sharing(7, 2));
        b.sentence("section 2", "the second one and the two others");
        b.due("! 1 0,2", three(alike, small, other).sharing(7, 2));
        int[] eight = {0, 8};
        b.due("! 1 0,2", three(new int[] {5, 0}, eight, eight).sharing(7, 2));
        b.sentence("section 2", "the third one and the two others");
        b.due("! 2 0,1", three(other, alike, small).sharing(7, 2));
        // By these rules it is never the first that is less, so it is looked at behind the others.
        b.sentence("section 2", "the first two, the first and the third,"
                + " and the second and the third one, by half each");
        b.due("! 0 1 2", three(small, small, small).sharing(7, 2));
        b.sentence("section 2", "The PROOF is the first FAMILY whose PRICES,"
                + " by half each in the last one, are less together than the PRICE of all");
        b.due("0=4 1=12 2=9", three(small, alike, other).sharing(7, 0));
        Poolward even = even(0, 4);
        even.chances(1, 1, 1, 0, 2);
        even.person(1, 0, 4, 0);
        even.load(1, 1);
        b.due("0=6 1=6", even.sharing(3, 2));
        even.loss(0, 0, 1);
        b.due("0=19/4 1=6", even.sharing(3, 2));
    }

    // ---- section 3

    private void ruin() {
        b.sentence("section 3", "at the end of one of them MONEY is below 0");
        Poolward x = even(0, 5);
        b.due("0", x.ruin(5, 0, 1));
        b.due("1/2", x.ruin(4, 0, 1));
        b.due("1/2", x.ruin(0, 4, 2));
        b.due("0", x.ruin(0, 5, 3));
        b.due("1/4", x.ruin(5, 0, 2));
        b.due("1/2", x.ruin(5, 0, 3));
        b.sentence("section 3", "the least MONEY (0 or more) to begin with,"
                + " with which the chance of RUIN is not above a told FRACTION");
        b.due(0, x.least(0, 1, 1, 2));
        b.due(5, x.least(0, 1, 49, 99));
        b.due(5, x.least(0, 1, 0, 99));
        b.due(0, x.least(12, 3, 0, 1));
        b.due(5, x.least(0, 3, 1, 2));
        b.due(180, five(12).least(0, 3, 0, 1));
        b.due(0, five(12).least(0, 3, 1, 1));
    }

    private void years() {
        b.sentence("section 3", "MONEY (0 to 60 as it is told, 0 at first; by YEARS it may be any)"
                + " and INCOME (0 to 12; 0 at first)");
        Poolward x = five(12);
        b.due(0, x.house(3));
        b.due(0, x.house(4));
        b.due(-60, x.year(0, 0, 0));
        b.due(-120, x.year(0, 0, 0));
        Poolward rich = new Poolward();
        b.due(0, rich.till(60, 12));
        b.due(72, rich.year(0, 0, 0));
        b.due(84, rich.year(2, 2, 2));
        b.due(84, rich.till(0, 0));
        b.due(0, rich.year(0, 0, 0));
        b.argument(Poolward::new, y -> y.till(61, 0), y -> y.till(-1, 0), y -> y.till(0, 13),
                y -> y.till(0, -1));
        b.sentence("section 3", "PERSONS have a STEP (2 at first) and BORNE (0 at first)");
        b.due(2, five(1).ofPerson(4, 5));
        b.due(0, five(1).ofPerson(4, 6));
        rich.person(0, 1, 1, 1);
        b.due(2, rich.ofPerson(0, 5));
        b.due(0, rich.ofPerson(0, 6));
        b.sentence("section 3", "To play a YEAR with a told CASE (also one with the CHANCE 0)");
        Poolward y = new Poolward();
        y.person(0, 0, 0, 7);
        b.due("0", y.chance(2, 0, 0));
        b.due(-7, y.year(2, 0, 0));
        b.sentence("section 3",
                "its STEP changes as in section 5, with a told harm if it is HIT");
        Poolward z = new Poolward();
        z.person(0, 1, 0, 0);
        z.bound(0, 12);
        b.due(0, z.year(0, 0, 0));
        b.due(1, z.ofPerson(0, 5));
        b.due(1, z.ofPerson(0, 6));
        b.due(0, z.year(1, 0, 0));
        b.due(2, z.ofPerson(0, 5));
        b.due(1, z.ofPerson(0, 6));
    }
}
