/** The edges that the promises 1 to 21 name. */
final class EdgesOfChanges {
    private final Boundaries b;

    EdgesOfChanges(Boundaries b) {
        this.b = b;
    }

    void check() {
        newObject();
        chances();
        person();
        lossAndBound();
        layer();
        unlayer();
        load();
        tail();
        till();
        year();
        table();
        policyAndInterest();
        rateAndHarm();
        claim();
        bears();
        contract();
        undo();
        undone();
        knock();
    }

    private static Poolward withPersons(int count) {
        Poolward x = new Poolward();
        for (int i = 0; i < count; i++) {
            x.person(i % 3, 1 + i, 2 + i, 3 + i);
        }
        return x;
    }

    // ---- promises 1 to 5

    private void newObject() {
        b.sentence("Promise 1", "Creates a house without PERSONS");
        Poolward x = new Poolward();
        b.due(0, x.house(0));
        b.due("0:1", x.law(0, 0));
        b.index(Poolward::new, y -> y.ofPerson(0, 0), y -> y.loss(0, 0, 0), y -> y.bound(0, 0),
                y -> y.law(1, 0), y -> y.claim(0, 0, 0, 1), y -> y.gain(0, 0, 0, 0),
                y -> y.unlayer(0));
        b.argument(Poolward::new, y -> y.sharing(0, 0));
        b.due(0, x.person(0, 0, 0, 0));
        b.due(new Model().digest(), new Poolward().digest());
    }

    private void chances() {
        b.sentence("Promise 2", "how many CASES have a CHANCE above 0 then");
        Poolward x = new Poolward();
        b.due(1, x.chances(0, 0, 60, 0, 60));
        b.due(3, x.chances(1, 1, 58, 1, 60));
        b.due(6, x.chances(2, 30, 0, 30, 60));
        b.due(18, x.chances(0, 1, 1, 1, 3));
        b.due(27, x.chances(2, 20, 20, 20, 60));
        b.due(9, x.chances(1, 1, 0, 0, 1));
        b.sentence("Promise 2", "-8 if bottom is 0");
        b.notDone(-8, Houses::furnished, y -> y.chances(0, 0, 0, 0, 0),
                y -> y.chances(2, 60, 60, 60, 0));
        b.sentence("Promise 2", "-9 if they are not one together");
        b.notDone(-9, Houses::furnished, y -> y.chances(0, 0, 0, 0, 1),
                y -> y.chances(0, 20, 20, 19, 60), y -> y.chances(0, 20, 20, 21, 60),
                y -> y.chances(1, 60, 60, 60, 60));
        b.ranges(2, "there is no such GROUP", "a, b, c or bottom is not 0 to 60",
                "chances 0:0-2! 20:0-60 20:0-60 20:0-60 60:0-60");
    }

    private void person() {
        b.ranges(3, "there is no such GROUP", "a, b or c is not 0 to 12",
                "person 1:0-2! 3:0-12 4:0-12 5:0-12");
        b.sentence("Promise 3", "Throws IllegalStateException if there are 5");
        Poolward x = withPersons(4);
        b.due(4, x.person(2, 12, 12, 12));
        b.state(() -> withPersons(5), y -> y.person(0, 0, 0, 0), y -> y.person(2, 12, 12, 12));
        b.index(() -> withPersons(5), y -> y.person(3, 0, 0, 0));
        b.argument(() -> withPersons(5), y -> y.person(0, 0, 0, 13));
        x.undo();
        b.due(4, x.person(0, 0, 0, 0));
    }

    private void lossAndBound() {
        b.ranges(4, "there is no such PERSON or STATE", "coins is not 0 to 12",
                "loss 1:0-2! 1:0-2! 5:0-12");
        b.index(() -> withPersons(5), y -> y.loss(5, 0, 1));
        b.due(7, withPersons(5).loss(4, 2, 0));
        b.ranges(5, "there is no such PERSON", "coins is not 0 to 12", "bound 1:0-2! 5:0-12");
        b.index(() -> withPersons(5), y -> y.bound(5, 1));
        b.due(0, withPersons(5).bound(4, 12));
    }

    // ---- promises 6 to 11

    private static Poolward layered(int count) {
        Poolward x = withPersons(5);
        for (int i = 0; i < count; i++) {
            x.layer(3 + 10 * i, 4);
        }
        return x;
    }

    private void layer() {
        b.sentence("Promise 6", "-9 if it would lie over another one");
        b.notDone(-9, () -> layered(2), x -> x.layer(3, 4), x -> x.layer(6, 1),
                x -> x.layer(0, 4), x -> x.layer(0, 60), x -> x.layer(16, 60),
                x -> x.layer(13, 1), x -> x.layer(7, 7), x -> x.layer(14, 2));
        b.due(2, layered(2).layer(7, 6));
        b.due(2, layered(2).layer(17, 60));
        b.due(2, layered(2).layer(0, 3));
        Poolward x = layered(2);
        x.unlayer(0);
        b.due(1, x.layer(0, 13));
        b.ranges(6, "", "from is not 0 to 59, or width not 1 to 60", "layer 50:0-59 1:1-60");
        b.sentence("Promise 6", "Throws IllegalStateException if there are 3");
        b.state(() -> layered(3), y -> y.layer(3, 4), y -> y.layer(59, 60), y -> y.layer(0, 1));
        b.argument(() -> layered(3), y -> y.layer(60, 1), y -> y.layer(0, 0));
    }

    private void unlayer() {
        b.ranges(7, "there is no such LAYER", "", "unlayer 1:0-1!");
        b.index(() -> layered(3), x -> x.unlayer(3));
        b.index(() -> layered(0), x -> x.unlayer(0));
        Poolward x = layered(3);
        b.due(2, x.unlayer(2));
        b.due(1, x.unlayer(0));
        b.due(0, x.unlayer(0));
    }

    private void load() {
        b.sentence("Promise 8", "1 if it was another FRACTION, otherwise 0");
        Poolward x = withPersons(2);
        b.due(0, x.load(0, 99));
        b.due(1, x.load(33, 99));
        b.due(0, x.load(1, 3));
        b.due(1, x.load(34, 99));
        b.due(1, x.load(0, 1));
        b.due(7, x.house(8));
        b.sentence("Promise 8", "-8 if bottom is 0");
        b.notDone(-8, Houses::furnished, y -> y.load(0, 0), y -> y.load(1, 0), y -> y.load(99, 0));
        b.sentence("Promise 8", "-9 if it is above 2");
        b.notDone(-9, Houses::furnished, y -> y.load(99, 49), y -> y.load(99, 1), y -> y.load(3, 1));
        b.due(1, x.load(2, 1));
        b.due(0, x.load(98, 49));
        b.due(1, x.load(97, 49));
        b.ranges(8, "", "top or bottom is not 0 to 99", "load 1:0-99 2:0-99");
    }

    private void tail() {
        b.sentence("Promise 9", "1 if it was another FRACTION, otherwise 0");
        Poolward x = withPersons(2);
        b.due(0, x.tail(99, 99));
        b.due(1, x.tail(98, 99));
        b.due(1, x.tail(33, 99));
        b.due(0, x.tail(1, 3));
        b.due(6, x.house(8));
        b.sentence("Promise 9", "-8 if bottom is 0");
        b.notDone(-8, Houses::furnished, y -> y.tail(0, 0), y -> y.tail(99, 0));
        b.sentence("Promise 9", "-9 if it is not above 0, or above 1");
        b.notDone(-9, Houses::furnished, y -> y.tail(0, 1), y -> y.tail(0, 99),
                y -> y.tail(99, 98), y -> y.tail(2, 1));
        b.due(1, x.tail(1, 99));
        b.due(1, x.tail(1, 1));
        b.ranges(9, "", "top or bottom is not 0 to 99", "tail 1:0-99 2:0-99");
    }

    private void till() {
        b.ranges(10, "", "money is not 0 to 60, or income not 0 to 12", "till 5:0-60 5:0-12");
        Poolward x = new Poolward();
        b.due(0, x.till(60, 12));
        b.due(60, x.till(0, 0));
        b.due(0, x.till(1, 1));
    }

    private void year() {
        b.ranges(11, "there is no such STATE", "", "year 1:0-2! 1:0-2! 1:0-2!");
        Poolward x = withPersons(3);
        b.due(-9, x.year(0, 1, 2));
        b.due(-21, x.year(2, 2, 2));
    }

    // ---- promises 12 to 19

    private void table() {
        b.sentence("Promise 12", "-9 if fall and die are above 100 together");
        b.notDone(-9, Houses::furnished, x -> x.table(0, 0, 100, 1, 0),
                x -> x.table(0, 0, 1, 100, 0), x -> x.table(1, 5, 50, 51, 100),
                x -> x.table(0, 0, 100, 100, 100));
        Poolward x = new Poolward();
        b.due(1, x.table(0, 0, 100, 0, 0));
        b.due(3, x.table(0, 0, 0, 100, 100));
        b.due(2, x.table(0, 0, 50, 50, 100));
        b.ranges(12, "there is no such TABLE or LIFE YEAR", "one of the three is not 0 to 100",
                "table 1:0-1! 3:0-5! 10:0-100 10:0-100 10:0-100");
    }

    private void policyAndInterest() {
        b.ranges(13, "there is no such TABLE",
                "term is not 1 to 6, or death, ill or end not 0 to 99",
                "policy 1:0-1! 3:1-6 9:0-99 9:0-99 9:0-99");
        b.ranges(14, "", "hundredths is not 0 to 50", "interest 7:0-50");
        Poolward x = new Poolward();
        b.due(0, x.interest(50));
        b.due(50, x.interest(0));
    }

    private void rateAndHarm() {
        b.ranges(15, "there is no such STEP", "rate is not 0 to 300", "rate 1:0-4! 120:0-300");
        b.sentence("Promise 16", "-8 if bottom is 0");
        b.notDone(-8, Houses::furnished, x -> x.harm(0, 0, 500, 4), x -> x.harm(99, 0, 0, 1));
        b.sentence("Promise 16", "-9 if the chance is above 1");
        b.notDone(-9, Houses::furnished, x -> x.harm(99, 98, 500, 4), x -> x.harm(2, 1, 0, 1));
        Poolward x = new Poolward();
        b.due(1, x.harm(99, 99, 500, 4));
        b.due(4, x.harm(98, 99, 0, 1));
        b.due(1, x.harm(0, 1, 0, 2));
        b.ranges(16, "", "top or bottom is not 0 to 99, size not 0 to 500, or drop not 1 to 4",
                "harm 1:0-99 2:0-99 9:0-500 2:1-4");
    }

    private static Poolward claimed(int count) {
        Poolward x = withPersons(5);
        for (int i = 0; i < count; i++) {
            x.claim(i % 5, 7 * i, i, 1 + i);
        }
        return x;
    }

    private void claim() {
        b.ranges(17, "there is no such PERSON", "day is not 0 to 99, lag not 0 to 99, day and lag"
                + " are above 99 together, or coins is not 1 to 99",
                "claim 1:0-2! 0:0-99 0:0-99 5:1-99");
        b.argument(() -> claimed(3), x -> x.claim(0, 99, 1, 1), x -> x.claim(0, 1, 99, 1),
                x -> x.claim(0, 50, 50, 1), x -> x.claim(0, 99, 99, 1),
                x -> x.claim(0, Integer.MAX_VALUE, 1, 1), x -> x.claim(0, -1, 50, 1),
                x -> x.claim(0, 50, -1, 1));
        b.due(3, claimed(3).claim(0, 50, 49, 1));
        b.due(3, claimed(3).claim(4, 99, 0, 99));
        b.sentence("Promise 17", "Throws IllegalStateException if there are 10");
        b.due(9, claimed(9).claim(0, 0, 0, 1));
        b.state(() -> claimed(10), x -> x.claim(0, 0, 0, 1), x -> x.claim(4, 99, 0, 99));
        b.index(() -> claimed(10), x -> x.claim(5, 0, 0, 1), x -> x.claim(-1, 100, 0, 1));
        b.argument(() -> claimed(10), x -> x.claim(0, 99, 1, 1), x -> x.claim(0, 0, 0, 0));
    }

    private void bears() {
        b.ranges(18, "there is no such POOL", "coins is not 0 to 99", "bears 1:0-3! 7:0-99");
    }

    private static Poolward handing() {
        Poolward x = new Poolward();
        x.contract(0, 1, 4);
        x.contract(0, 2, 5);
        return x;
    }

    private void contract() {
        b.sentence("Promise 19", "-9 if that POOL would hand on more than 10");
        b.notDone(-9, EdgesOfChanges::handing, x -> x.contract(0, 3, 2), x -> x.contract(0, 1, 6),
                x -> x.contract(0, 2, 7), x -> x.contract(0, 3, 10));
        b.due(0, handing().contract(0, 3, 1));
        b.due(4, handing().contract(0, 1, 5));
        b.due(5, handing().contract(0, 2, 6));
        b.due(0, handing().contract(1, 0, 10));
        b.due(0, handing().contract(3, 0, 10));
        b.ranges(19, "there is no such POOL (both)", "both are the same, or tenths is not 0 to 10",
                "contract 1:0-3! 2:0-3! 5:0-10");
        b.argument(EdgesOfChanges::handing, x -> x.contract(0, 0, 0), x -> x.contract(3, 3, 10),
                x -> x.contract(1, 1, 11));
        b.index(EdgesOfChanges::handing, x -> x.contract(4, 4, 1), x -> x.contract(-1, -1, 1));
    }

    // ---- promises 20 and 21

    private void undo() {
        b.sentence("Promise 20", "(also if all was as it is");
        Poolward x = new Poolward();
        b.due(0, x.load(0, 1));
        b.due(0, x.table(0, 0, 0, 0, 0));
        b.due(0, x.contract(0, 1, 0));
        b.due(3, x.house(8));
        b.due(2, x.undo());
        b.due(1, x.undo());
        b.due(0, x.undo());
        b.sentence("Promise 20", "not those that told -8 or -9 for it could not be)");
        Poolward y = new Poolward();
        y.till(5, 5);
        b.due(-8, y.load(1, 0));
        b.due(-9, y.load(3, 1));
        b.due(-8, y.harm(1, 0, 1, 1));
        b.due(-9, y.table(0, 0, 60, 60, 0));
        b.due(1, y.house(8));
        b.due(0, y.undo());
        b.due(0, y.house(3));
        yearsLikeRefusals();
        b.sentence("Promise 20", "The last 8 can be undone");
        Poolward z = new Poolward();
        for (int money = 1; money <= 9; money++) {
            z.till(money, 0);
            b.due(Math.min(money, 8), z.house(8));
        }
        for (int left = 7; left >= 0; left--) {
            b.due(left, z.undo());
            b.due(left + 1, z.house(3));
        }
        b.state(EdgesOfChanges::undoneAll, w -> w.undo());
        b.sentence("Promise 20", "Returns how many can be undone then");
        Poolward turns = new Poolward();
        for (int turn = 0; turn < 20; turn++) {
            turns.till(turn, 0);
            turns.till(turn + 1, 0);
            b.due(Math.min(turn + 1, 7), turns.undo());
            b.due(turn, turns.house(3));
        }
        b.sentence("Promise 20", "Throws IllegalStateException if none can be undone");
        b.state(Poolward::new, w -> w.undo());
        b.state(EdgesOfChanges::undoneAll, w -> w.undo());
    }

    private static Poolward undoneAll() {
        Poolward x = new Poolward();
        for (int money = 1; money <= 9; money++) {
            x.till(money, 0);
        }
        for (int i = 0; i < 8; i++) {
            x.undo();
        }
        return x;
    }

    /** A year may answer -8 or -9 as money: it was done. */
    private void yearsLikeRefusals() {
        Poolward x = new Poolward();
        x.person(0, 8, 9, 0);
        b.due(-8, x.year(0, 0, 0));
        b.due(1, x.undo());
        b.due(-9, x.year(1, 0, 0));
        b.due(2, x.house(8));
        b.due(1, x.undo());
        b.due(0, x.house(3));
    }

    private static final String[] CHANGES = {
        "chances 1 1 2 3 6", "person 1 2 3 4", "loss 1 1 11", "bound 2 5", "layer 20 2",
        "unlayer 0", "unlayer 1", "load 2 3", "tail 1 2", "till 10 6", "year 2 1 1",
        "table 0 1 30 20 10", "policy 0 2 51 21 11", "interest 14", "rate 2 130",
        "harm 1 3 41 1", "claim 1 20 30 40", "bears 2 41", "contract 1 3 4"};

    private void undone() {
        b.sentence("Promise 20", "all is as it was ahead of it");
        String ahead = Telling.of(Houses.furnished());
        for (String change : CHANGES) {
            Poolward changed = Houses.furnished();
            Houses.answer(changed, change);
            b.due(change + " changes: true",
                    change + " changes: " + !ahead.equals(Telling.of(changed)));
            Poolward x = Houses.furnished();
            Houses.answer(x, change);
            b.due(7, x.undo());
            b.due(change + " " + ahead, change + " " + Telling.of(x));
        }
    }

    private void knock() {
        b.sentence("Promise 21", "Returns how often ever, with this");
        Poolward x = new Poolward();
        b.due(1, x.knock());
        x.till(1, 0);
        b.due(2, x.knock());
        x.undo();
        b.due(3, x.knock());
        b.due(0, x.house(8));
        b.due(3, x.house(9));
    }
}
