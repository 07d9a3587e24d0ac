/** Promise by promise: ordinary calls, the edges that the document names, and wrong inputs. */
public final class PromisesTest {
    private static final int LOW = Integer.MIN_VALUE;
    private static final int HIGH = Integer.MAX_VALUE;

    private static final Check check = new Check();

    private PromisesTest() {
    }

    public static void main(String[] args) {
        changesOfPeople();
        changesOfTheHouse();
        changesOfTheRest();
        undoing();
        sums();
        prices();
        ruins();
        livesAndSteps();
        claimsAndPools();
        theHouse();
        check.finish();
    }

    /** Group 0 with three even chances, group 1 with two, and a person in each. */
    private static Poolward pair() {
        Poolward x = new Poolward();
        x.chances(0, 1, 1, 1, 3);
        x.chances(1, 1, 1, 0, 2);
        x.person(0, 0, 4, 8);
        x.person(1, 2, 6, 12);
        return x;
    }

    /** Three persons whose losses all hang on one group, with two even chances. */
    private static Poolward bound3(int[] first, int[] second, int[] third) {
        Poolward x = new Poolward();
        x.chances(0, 1, 1, 0, 2);
        x.person(0, first[0], first[1], 0);
        x.person(0, second[0], second[1], 0);
        x.person(0, third[0], third[1], 0);
        x.load(1, 1);
        return x;
    }

    // ---- promises 1 to 5

    private static void changesOfPeople() {
        newObject();
        chances();
        person();
        loss();
        bound();
    }

    private static void newObject() {
        check.part("promise 1");
        Poolward x = new Poolward();
        int[] due = {0, 0, 0, 0, 0, 0, 0, 1, 0, 0};
        for (int what = 0; what < due.length; what++) {
            check.due(due[what], x.house(what));
        }
        check.due("1", x.chance(0, 0, 0));
        check.due("0", x.chance(0, 0, 1));
        check.due("0:1", x.law(0, 0));
        check.due("0", x.price(0, 1));
        check.due("0", x.premium(0));
        check.due("0", x.putBy(1, 1, true));
        check.due("100", x.meanRate());
        check.due("1", x.longRun(4));
        check.due("", x.queue(99));
        check.due("", x.owes());
        check.due(0, x.load(0, 7));
        check.due(0, x.tail(7, 7));
        check.throwsIndex(() -> x.ofPerson(0, 0));
    }

    private static void chances() {
        check.part("promise 2");
        Poolward x = new Poolward();
        check.due(3, x.chances(0, 1, 2, 3, 6));
        check.due(6, x.chances(2, 0, 30, 30, 60));
        check.due(18, x.chances(1, 20, 20, 20, 60));
        check.due(6, x.chances(0, 0, 60, 0, 60));
        check.due("1/6", x.chance(1, 0, 1));
        check.due("0", x.chance(0, 0, 1));
        int done = x.house(8);
        check.due(-8, x.chances(0, 0, 0, 0, 0));
        check.due(-8, x.chances(0, 1, 2, 3, 0));
        check.due(-9, x.chances(0, 1, 1, 1, 4));
        check.due(-9, x.chances(0, 1, 1, 1, 2));
        check.due(-9, x.chances(0, 60, 60, 60, 60));
        check.throwsIndex(() -> x.chances(3, 61, 0, 0, 0));
        check.throwsIndex(() -> x.chances(-1, 1, 0, 0, 1));
        check.throwsArgument(() -> x.chances(0, 61, 0, 0, 0));
        check.throwsArgument(() -> x.chances(0, 0, 61, 0, 0));
        check.throwsArgument(() -> x.chances(0, 0, 0, 61, 0));
        check.throwsArgument(() -> x.chances(0, -1, 1, 1, 1));
        check.throwsArgument(() -> x.chances(0, 1, -1, 1, 1));
        check.throwsArgument(() -> x.chances(0, 1, 1, -1, 1));
        check.throwsArgument(() -> x.chances(0, 0, 0, HIGH, 1));
        check.throwsArgument(() -> x.chances(2, 0, 0, 1, 61));
        check.throwsArgument(() -> x.chances(2, 0, 0, 1, LOW));
        check.due(done, x.house(8));
        check.due("1/6", x.chance(1, 0, 1));
    }

    private static void person() {
        check.part("promise 3");
        Poolward x = new Poolward();
        check.due(0, x.person(2, 12, 0, 7));
        int[] due = {2, 12, 0, 7, 0, 2, 0};
        for (int what = 0; what < due.length; what++) {
            check.due(due[what], x.ofPerson(0, what));
        }
        check.throwsIndex(() -> x.person(3, 13, 0, 0));
        check.throwsIndex(() -> x.person(-1, 0, 0, 0));
        check.throwsArgument(() -> x.person(0, 13, 0, 0));
        check.throwsArgument(() -> x.person(0, 0, -1, 0));
        check.throwsArgument(() -> x.person(0, 0, 0, 13));
        for (int number = 1; number < 5; number++) {
            check.due(number, x.person(0, 1, 1, 1));
        }
        check.throwsState(() -> x.person(0, 0, 0, 0));
        check.throwsIndex(() -> x.person(4, 13, 0, 0));
        check.throwsArgument(() -> x.person(0, 13, 0, 0));
        check.due(5, x.house(0));
        check.due(5, x.house(8));
    }

    private static void loss() {
        check.part("promise 4");
        Poolward x = pair();
        check.due(4, x.loss(0, 1, 12));
        check.due(12, x.loss(0, 1, 12));
        check.due(12, x.loss(1, 2, 0));
        check.due(12, x.ofPerson(0, 2));
        check.due(0, x.ofPerson(1, 3));
        check.due("4", x.mean(2, 0));
        check.throwsIndex(() -> x.loss(2, 0, 13));
        check.throwsIndex(() -> x.loss(-1, 0, 1));
        check.throwsIndex(() -> x.loss(0, 3, 13));
        check.throwsIndex(() -> x.loss(0, -1, 1));
        check.throwsArgument(() -> x.loss(0, 0, 13));
        check.throwsArgument(() -> x.loss(0, 0, -1));
        check.due(0, x.ofPerson(0, 1));
    }

    private static void bound() {
        check.part("promise 5");
        Poolward x = pair();
        check.due(0, x.bound(1, 12));
        check.due(12, x.bound(1, 3));
        check.due(3, x.ofPerson(1, 4));
        check.due(0, x.ofPerson(0, 4));
        check.throwsIndex(() -> x.bound(2, 13));
        check.throwsIndex(() -> x.bound(-1, 0));
        check.throwsArgument(() -> x.bound(1, 13));
        check.throwsArgument(() -> x.bound(1, -1));
        check.due(3, x.ofPerson(1, 4));
    }

    // ---- promises 6 to 11

    private static void changesOfTheHouse() {
        layer();
        unlayer();
        load();
        tail();
        till();
        year();
    }

    private static void layer() {
        check.part("promise 6");
        Poolward x = pair();
        check.due(0, x.layer(3, 4));
        check.due(-9, x.layer(3, 4));
        check.due(-9, x.layer(6, 1));
        check.due(-9, x.layer(0, 4));
        check.due(-9, x.layer(0, 60));
        check.due(-9, x.layer(4, 1));
        check.due(1, x.layer(7, 1));
        check.due(6, x.house(8));
        check.due(2, x.layer(0, 3));
        check.throwsState(() -> x.layer(3, 4));
        check.throwsState(() -> x.layer(59, 60));
        check.throwsArgument(() -> x.layer(60, 1));
        check.throwsArgument(() -> x.layer(-1, 1));
        check.throwsArgument(() -> x.layer(20, 0));
        check.throwsArgument(() -> x.layer(20, 61));
        check.due(3, x.house(1));
        check.due(8, x.sum(3, 3, 2, 1, 0));
        check.due(6, x.sum(3, 4, 2, 1, 0));
        check.due(0, new Poolward().layer(59, 60));
    }

    private static void unlayer() {
        check.part("promise 7");
        Poolward x = pair();
        x.layer(0, 1);
        x.layer(2, 3);
        x.layer(6, 5);
        check.throwsIndex(() -> x.unlayer(3));
        check.throwsIndex(() -> x.unlayer(-1));
        check.due(2, x.unlayer(0));
        check.due(8, x.sum(3, 3, 2, 1, 0));
        check.due(1, x.unlayer(1));
        check.due(3, x.sum(3, 3, 2, 1, 0));
        check.throwsIndex(() -> x.unlayer(1));
        check.due(1, x.layer(5, 5));
        check.due(1, x.unlayer(0));
        check.due(5, x.sum(3, 3, 2, 1, 0));
        check.due(0, x.unlayer(0));
        check.throwsIndex(() -> x.unlayer(0));
        check.due(0, x.house(1));
    }

    private static void load() {
        check.part("promise 8");
        Poolward x = pair();
        check.due(1, x.load(1, 2));
        check.due(0, x.load(2, 4));
        check.due(1, x.load(2, 1));
        check.due("24", x.price(3, 0));
        check.due(-8, x.load(1, 0));
        check.due(-8, x.load(0, 0));
        check.due(-9, x.load(3, 1));
        check.due(-9, x.load(99, 49));
        check.due(0, x.load(98, 49));
        check.due(1, x.load(0, 99));
        check.throwsArgument(() -> x.load(100, 0));
        check.throwsArgument(() -> x.load(-1, 1));
        check.throwsArgument(() -> x.load(1, 100));
        check.throwsArgument(() -> x.load(1, -1));
        check.due("8", x.price(3, 0));
    }

    private static void tail() {
        check.part("promise 9");
        Poolward x = pair();
        check.due(1, x.tail(1, 6));
        check.due(0, x.tail(2, 12));
        check.due("14", x.price(3, 1));
        check.due(-8, x.tail(1, 0));
        check.due(-8, x.tail(0, 0));
        check.due(-9, x.tail(0, 1));
        check.due(-9, x.tail(99, 98));
        check.due(1, x.tail(99, 99));
        check.due(0, x.tail(1, 1));
        check.throwsArgument(() -> x.tail(100, 1));
        check.throwsArgument(() -> x.tail(-1, 0));
        check.throwsArgument(() -> x.tail(1, 100));
        check.throwsArgument(() -> x.tail(0, -1));
        check.due("8", x.price(3, 1));
    }

    private static void till() {
        check.part("promise 10");
        Poolward x = pair();
        check.due(0, x.till(60, 12));
        check.due(60, x.till(7, 0));
        check.due(7, x.house(3));
        check.due(0, x.house(4));
        x.year(2, 1, 0);
        check.due(-7, x.till(0, 1));
        check.throwsArgument(() -> x.till(61, 0));
        check.throwsArgument(() -> x.till(-1, 0));
        check.throwsArgument(() -> x.till(0, 13));
        check.throwsArgument(() -> x.till(0, -1));
        check.due(0, x.house(3));
        check.due(1, x.house(4));
    }

    private static void year() {
        check.part("promise 11");
        Poolward x = pair();
        x.bound(0, 3);
        x.layer(5, 2);
        x.till(5, 4);
        check.due(0, x.year(2, 1, 0));
        check.due(3, x.ofPerson(0, 6));
        check.due(0, x.ofPerson(1, 6));
        check.due(1, x.ofPerson(0, 5));
        check.due(1, x.ofPerson(1, 5));
        check.due(-6, x.year(0, 2, 2));
        check.due(2, x.ofPerson(0, 5));
        check.due(0, x.ofPerson(1, 5));
        check.due(-4, x.year(0, 0, 1));
        check.due(0, x.ofPerson(1, 5));
        check.due(3, x.ofPerson(0, 6));
        x.harm(0, 1, 0, 3);
        x.year(0, 0, 0);
        x.year(0, 0, 0);
        check.due(4, x.ofPerson(0, 5));
        check.due(1, x.year(1, 0, 0));
        check.due(1, x.ofPerson(0, 5));
        check.due(6, x.ofPerson(0, 6));
        check.throwsIndex(() -> x.year(3, 0, 0));
        check.throwsIndex(() -> x.year(0, -1, 0));
        check.throwsIndex(() -> x.year(0, 0, HIGH));
        check.due(1, x.house(3));
        yearThatAnswersLikeARefusal();
    }

    /** Money may be -8 or -9: such a year is played, and can be undone. */
    private static void yearThatAnswersLikeARefusal() {
        Poolward x = new Poolward();
        x.person(0, 8, 9, 0);
        check.due(-8, x.year(0, 0, 0));
        check.due(2, x.house(8));
        check.due(-8, x.year(2, 0, 0));
        check.due(2, x.undo());
        x.undo();
        check.due(0, x.house(3));
        check.due(-9, x.year(1, 0, 0));
        check.due(2, x.house(8));
        check.due(-9, x.house(3));
    }

    // ---- promises 12 to 19

    private static void changesOfTheRest() {
        table();
        policy();
        interest();
        rate();
        harm();
        claim();
        bears();
        contract();
    }

    private static void table() {
        check.part("promise 12");
        Poolward x = new Poolward();
        check.due(0, x.table(0, 0, 0, 0, 0));
        check.due(3, x.table(0, 0, 10, 20, 30));
        check.due(1, x.table(0, 0, 10, 20, 100));
        check.due(2, x.table(1, 5, 0, 100, 100));
        check.due(1, x.table(1, 5, 0, 0, 100));
        check.due(-9, x.table(1, 5, 1, 100, 0));
        check.due(-9, x.table(1, 5, 51, 50, 0));
        check.due(2, x.table(1, 5, 50, 50, 100));
        check.throwsIndex(() -> x.table(2, 0, 101, 0, 0));
        check.throwsIndex(() -> x.table(-1, 0, 0, 0, 0));
        check.throwsIndex(() -> x.table(0, 6, 0, 0, 0));
        check.throwsIndex(() -> x.table(0, -1, 101, 0, 0));
        check.throwsArgument(() -> x.table(0, 0, 101, 0, 0));
        check.throwsArgument(() -> x.table(0, 0, 0, 101, 0));
        check.throwsArgument(() -> x.table(0, 0, 100, 100, 101));
        check.throwsArgument(() -> x.table(0, 0, 0, 0, -1));
        check.due("7/10", x.life(0, 1, 0));
        check.due("1/10", x.life(0, 1, 1));
        check.due("1/2", x.life(1, 6, 2));
    }

    private static void policy() {
        check.part("promise 13");
        Poolward x = new Poolward();
        check.due(1, x.policy(1, 6, 1, 2, 3));
        check.due(6, x.policy(1, 2, 99, 99, 99));
        check.due(1, x.policy(0, 1, 0, 0, 0));
        check.due("99/2", x.premium(1));
        check.due("0", x.premium(0));
        check.throwsIndex(() -> x.policy(2, 0, 0, 0, 0));
        check.throwsIndex(() -> x.policy(-1, 1, 0, 0, 0));
        check.throwsArgument(() -> x.policy(0, 0, 0, 0, 0));
        check.throwsArgument(() -> x.policy(0, 7, 0, 0, 0));
        check.throwsArgument(() -> x.policy(0, 1, 100, 0, 0));
        check.throwsArgument(() -> x.policy(0, 1, -1, 0, 0));
        check.throwsArgument(() -> x.policy(0, 1, 0, 100, 0));
        check.throwsArgument(() -> x.policy(0, 1, 0, -1, 0));
        check.throwsArgument(() -> x.policy(0, 1, 0, 0, -1));
        check.throwsArgument(() -> x.policy(0, 1, 0, 0, 100));
        check.due(2, x.policy(1, 1, 0, 0, 0));
    }

    private static void interest() {
        check.part("promise 14");
        Poolward x = new Poolward();
        x.policy(0, 1, 0, 0, 30);
        check.due(0, x.interest(50));
        check.due("20", x.premium(0));
        check.due(50, x.interest(20));
        check.due("25", x.premium(0));
        check.throwsArgument(() -> x.interest(51));
        check.throwsArgument(() -> x.interest(-1));
        check.due(20, x.house(5));
    }

    private static void rate() {
        check.part("promise 15");
        Poolward x = new Poolward();
        check.due(100, x.rate(4, 300));
        check.due(300, x.rate(4, 0));
        check.due("0", x.meanRate());
        check.due("100", x.cost(3, 2));
        check.throwsIndex(() -> x.rate(5, 301));
        check.throwsIndex(() -> x.rate(-1, 0));
        check.throwsArgument(() -> x.rate(4, 301));
        check.throwsArgument(() -> x.rate(4, -1));
        check.due(0, x.rate(4, 1));
    }

    private static void harm() {
        check.part("promise 16");
        Poolward x = new Poolward();
        check.due(1, x.harm(1, 2, 500, 4));
        check.due(4, x.harm(1, 2, 0, 1));
        check.due("1/5", x.longRun(0));
        check.due(-8, x.harm(1, 0, 9, 2));
        check.due(-8, x.harm(0, 0, 9, 2));
        check.due(-9, x.harm(2, 1, 9, 2));
        check.throwsArgument(() -> x.harm(100, 0, 0, 1));
        check.throwsArgument(() -> x.harm(0, 100, 0, 1));
        check.throwsArgument(() -> x.harm(-1, 1, 0, 1));
        check.throwsArgument(() -> x.harm(1, 0, 501, 1));
        check.throwsArgument(() -> x.harm(1, 1, -1, 1));
        check.throwsArgument(() -> x.harm(2, 1, 0, 0));
        check.throwsArgument(() -> x.harm(1, 1, 0, 5));
        check.due(0, x.house(6));
        check.due(1, x.house(7));
        check.due(1, x.harm(99, 99, 7, 3));
        check.due("1", x.longRun(0));
        check.due(7, x.house(6));
        check.due(3, x.house(7));
    }

    private static void claim() {
        check.part("promise 17");
        Poolward x = pair();
        check.due(0, x.claim(1, 99, 0, 99));
        check.due(1, x.claim(0, 0, 99, 1));
        check.throwsIndex(() -> x.claim(2, 100, 0, 1));
        check.throwsIndex(() -> x.claim(-1, 0, 0, 1));
        check.throwsArgument(() -> x.claim(0, 100, 0, 1));
        check.throwsArgument(() -> x.claim(0, -1, 0, 1));
        check.throwsArgument(() -> x.claim(0, 0, 100, 1));
        check.throwsArgument(() -> x.claim(0, 5, -1, 1));
        check.throwsArgument(() -> x.claim(0, HIGH, HIGH, 1));
        check.throwsArgument(() -> x.claim(0, 50, 50, 1));
        check.throwsArgument(() -> x.claim(0, 0, 0, 0));
        check.throwsArgument(() -> x.claim(0, 0, 0, 100));
        for (int number = 2; number < 10; number++) {
            check.due(number, x.claim(0, 50, 49, 1));
        }
        check.throwsState(() -> x.claim(0, 0, 0, 1));
        check.throwsArgument(() -> x.claim(0, 50, 50, 1));
        check.throwsIndex(() -> x.claim(2, 0, 0, 1));
        check.due(10, x.house(2));
        check.due(8, x.run(2, 1));
    }

    private static void bears() {
        check.part("promise 18");
        Poolward x = new Poolward();
        check.due(0, x.bears(3, 99));
        check.due(99, x.bears(3, 4));
        check.due("4", x.pool(3, 0));
        check.throwsIndex(() -> x.bears(4, 100));
        check.throwsIndex(() -> x.bears(-1, 0));
        check.throwsArgument(() -> x.bears(0, 100));
        check.throwsArgument(() -> x.bears(0, -1));
        check.due("0", x.pool(0, 0));
    }

    private static void contract() {
        check.part("promise 19");
        Poolward x = new Poolward();
        check.due(0, x.contract(0, 1, 4));
        check.due(0, x.contract(0, 2, 6));
        check.due(-9, x.contract(0, 3, 1));
        check.due(-9, x.contract(0, 1, 5));
        check.due(4, x.contract(0, 1, 3));
        check.due(0, x.contract(0, 3, 1));
        check.due(0, x.contract(1, 0, 10));
        check.due(10, x.contract(1, 0, 10));
        check.throwsIndex(() -> x.contract(4, 4, 11));
        check.throwsIndex(() -> x.contract(0, 4, 1));
        check.throwsIndex(() -> x.contract(-1, 0, 1));
        check.throwsIndex(() -> x.contract(0, -1, 1));
        check.throwsArgument(() -> x.contract(0, 0, 0));
        check.throwsArgument(() -> x.contract(0, 1, 11));
        check.throwsArgument(() -> x.contract(0, 1, -1));
        check.due(3, x.tenths(0, 1));
    }

    // ---- promises 20 and 21

    private static void undoing() {
        undo();
        undoOfRefused();
        knock();
    }

    private static void undo() {
        check.part("promise 20");
        Poolward x = new Poolward();
        check.throwsState(x::undo);
        for (int i = 1; i <= 12; i++) {
            x.till(i, 0);
            check.due(Math.min(i, 8), x.house(8));
        }
        for (int left = 7; left >= 0; left--) {
            check.due(left, x.undo());
            check.due(left + 4, x.house(3));
        }
        check.throwsState(x::undo);
        check.due(4, x.house(3));
        x.till(50, 0);
        x.interest(0);
        check.due(1, x.undo());
        check.due(50, x.house(3));
        check.due(0, x.undo());
        check.due(4, x.house(3));
    }

    /** What was refused, asked, or changed nothing but was done. */
    private static void undoOfRefused() {
        Poolward x = pair();
        check.due(4, x.house(8));
        x.chances(0, 1, 1, 1, 4);
        x.chances(0, 1, 1, 1, 0);
        x.load(1, 0);
        x.tail(0, 1);
        x.harm(1, 0, 0, 1);
        x.table(0, 0, 60, 60, 0);
        Check.answerOf(() -> x.layer(60, 1));
        x.knock();
        x.digest();
        x.gain(0, 1, 12, 2);
        check.due(4, x.house(8));
        x.load(0, 1);
        check.due(5, x.house(8));
        check.due(4, x.undo());
        check.due(3, x.undo());
        check.due(1, x.house(0));
        check.due(1, x.house(9));
        check.throwsIndex(() -> x.ofPerson(1, 0));
    }

    private static void knock() {
        check.part("promise 21");
        Poolward x = new Poolward();
        check.due(1, x.knock());
        x.till(1, 1);
        check.due(2, x.knock());
        x.undo();
        check.due(3, x.knock());
        check.due(3, x.house(9));
        check.due(0, x.house(8));
        check.due(1, new Poolward().knock());
    }

    // ---- promises 22 to 30

    private static void sums() {
        chance();
        hit();
        sum();
        law();
        meanAndSpread();
        atMost();
        mark();
        worst();
    }

    private static void chance() {
        check.part("promise 22");
        Poolward x = pair();
        x.chances(2, 1, 59, 0, 60);
        check.due("1/360", x.chance(2, 1, 0));
        check.due("59/360", x.chance(0, 0, 1));
        check.due("0", x.chance(0, 2, 1));
        check.throwsIndex(() -> x.chance(3, 0, 0));
        check.throwsIndex(() -> x.chance(0, -1, 0));
        check.throwsIndex(() -> x.chance(0, 0, 3));
    }

    private static void hit() {
        check.part("promise 23");
        Poolward x = pair();
        x.person(2, 0, 0, 1);
        check.due(7, x.hit(1, 2, 2));
        check.due(2, x.hit(0, 0, 0));
        check.due(6, x.hit(0, 0, 2));
        x.bound(1, 12);
        check.due(2, x.hit(0, 1, 1));
        check.due(0, new Poolward().hit(2, 2, 2));
        check.throwsIndex(() -> x.hit(-1, 0, 0));
        check.throwsIndex(() -> x.hit(0, 3, 0));
        check.throwsIndex(() -> x.hit(0, 0, LOW));
    }

    private static void sum() {
        check.part("promise 24");
        Poolward x = pair();
        x.bound(0, 3);
        x.layer(4, 2);
        x.layer(8, 60);
        int[] due = {20, 3, 17, 11, 6};
        for (int kind = 0; kind < due.length; kind++) {
            check.due(due[kind], x.sum(3, kind, 2, 2, 1));
            check.due(0, x.sum(0, kind, 2, 2, 2));
        }
        check.due(8, x.sum(1, 0, 2, 2, 1));
        check.due(1, x.sum(1, 3, 2, 2, 1));
        check.throwsIndex(() -> x.sum(4, 5, 0, 0, 0));
        check.throwsIndex(() -> x.sum(-1, 0, 0, 0, 0));
        check.throwsIndex(() -> x.sum(LOW, 0, 0, 0, 0));
        check.throwsIndex(() -> x.sum(3, 5, 0, 3, 0));
        check.throwsIndex(() -> x.sum(3, 0, -1, 0, 0));
        check.throwsArgument(() -> x.sum(3, 5, 0, 0, 0));
        check.throwsArgument(() -> x.sum(3, -1, 0, 0, 0));
    }

    private static void law() {
        check.part("promise 25");
        Poolward x = pair();
        check.due("2:1/6 6:1/3 10:1/3 14:1/6", x.law(3, 0));
        check.due("0:1/3 4:1/3 8:1/3", x.law(1, 2));
        check.due("0:1", x.law(3, 1));
        check.due("0:1", x.law(0, 4));
        x.bound(1, 3);
        x.layer(0, 4);
        check.due("2:1/2 3:1/2", x.law(3, 1));
        check.due("0:1/6 3:1/6 4:2/3", x.law(3, 3));
        check.due("0:1/2 3:1/6 4:1/6 7:1/6", x.law(3, 4));
        check.throwsIndex(() -> x.law(4, 5));
        check.throwsIndex(() -> x.law(-1, 0));
        check.throwsArgument(() -> x.law(3, 5));
        check.throwsArgument(() -> x.law(3, -1));
        check.due("0:1", new Poolward().law(0, 0));
    }

    private static void meanAndSpread() {
        check.part("promises 26 and 27");
        Poolward x = pair();
        check.due("8", x.mean(3, 0));
        check.due("44/3", x.spread(3, 0));
        check.due("32/3", x.spread(1, 2));
        check.due("4", x.spread(2, 2));
        check.due("0", x.mean(3, 3));
        check.due("0", x.spread(3, 1));
        check.due("0", x.mean(0, 0));
        check.due("0", x.spread(0, 4));
        x.bound(0, 5);
        check.due("3", x.mean(1, 1));
        check.due("1", x.mean(1, 2));
        check.due("2", x.spread(1, 4));
        check.throwsIndex(() -> x.mean(4, 0));
        check.throwsIndex(() -> x.mean(-1, 7));
        check.throwsArgument(() -> x.mean(0, 5));
        check.throwsArgument(() -> x.mean(0, -1));
        check.throwsIndex(() -> x.spread(HIGH, 0));
        check.throwsIndex(() -> x.spread(-1, 7));
        check.throwsArgument(() -> x.spread(0, 5));
        check.throwsArgument(() -> x.spread(0, -1));
    }

    private static void atMost() {
        check.part("promise 28");
        Poolward x = pair();
        check.due("1/6", x.atMost(3, 0, 5));
        check.due("1/2", x.atMost(3, 0, 6));
        check.due("1", x.atMost(3, 0, 14));
        check.due("1", x.atMost(3, 0, HIGH));
        check.due("0", x.atMost(3, 0, 1));
        check.due("0", x.atMost(3, 0, LOW));
        check.due("1", x.atMost(0, 0, 0));
        check.due("0", x.atMost(0, 0, -1));
        check.throwsIndex(() -> x.atMost(4, 5, 0));
        check.throwsIndex(() -> x.atMost(-1, 0, 0));
        check.throwsArgument(() -> x.atMost(3, 5, 0));
        check.throwsArgument(() -> x.atMost(3, -1, 0));
    }

    private static void mark() {
        check.part("promise 29");
        Poolward x = pair();
        check.due(2, x.mark(3, 0, 1, 6));
        check.due(2, x.mark(3, 0, 1, 99));
        check.due(4, x.mark(1, 0, 1, 2));
        check.due(6, x.mark(3, 0, 17, 99));
        check.due(6, x.mark(3, 0, 1, 2));
        check.due(10, x.mark(3, 0, 50, 99));
        check.due(14, x.mark(3, 0, 99, 99));
        check.due(0, x.mark(0, 3, 1, 1));
        check.due(-8, x.mark(3, 0, 0, 0));
        check.due(-8, x.mark(3, 0, 5, 0));
        check.due(-9, x.mark(3, 0, 0, 5));
        check.due(-9, x.mark(3, 0, 6, 5));
        check.throwsIndex(() -> x.mark(4, 5, 1, 1));
        check.throwsIndex(() -> x.mark(-1, 0, 1, 0));
        check.throwsArgument(() -> x.mark(3, 5, 1, 0));
        check.throwsArgument(() -> x.mark(3, -1, 1, 1));
        check.throwsArgument(() -> x.mark(3, 0, 100, 0));
        check.throwsArgument(() -> x.mark(3, 0, -1, 1));
        check.throwsArgument(() -> x.mark(3, 0, 1, 100));
        check.throwsArgument(() -> x.mark(3, 0, 1, -1));
    }

    private static void worst() {
        check.part("promise 30");
        Poolward x = pair();
        check.due("14", x.worst(3, 0, 1, 6));
        check.due("14", x.worst(3, 0, 1, 99));
        check.due("38/3", x.worst(3, 0, 1, 4));
        check.due("34/3", x.worst(3, 0, 1, 2));
        check.due("8", x.worst(3, 0, 7, 7));
        check.due("0", x.worst(0, 0, 1, 3));
        check.due("-", x.worst(3, 0, 1, 0));
        check.due("-", x.worst(3, 0, 0, 0));
        check.due("-", x.worst(3, 0, 0, 4));
        check.due("-", x.worst(3, 0, 5, 4));
        check.throwsIndex(() -> x.worst(4, 5, 1, 1));
        check.throwsIndex(() -> x.worst(-1, 0, 1, 0));
        check.throwsArgument(() -> x.worst(3, 5, 1, 0));
        check.throwsArgument(() -> x.worst(3, -1, 1, 1));
        check.throwsArgument(() -> x.worst(3, 0, 100, 0));
        check.throwsArgument(() -> x.worst(3, 0, 0, 100));
        check.throwsArgument(() -> x.worst(3, 0, 1, -1));
    }

    // ---- promises 31 to 34

    private static void prices() {
        price();
        share();
        sharingOfTwo();
        sharingOfThree();
        proofs();
        gain();
    }

    private static void price() {
        check.part("promise 31");
        Poolward x = pair();
        x.load(1, 2);
        x.tail(1, 2);
        check.due("12", x.price(3, 0));
        check.due("34/3", x.price(3, 1));
        check.due("46/3", x.price(3, 2));
        check.due("14", x.price(3, 3));
        check.due("28/3", x.price(1, 2));
        check.due("0", x.price(0, 3));
        check.due("0", x.price(0, 1));
        x.chances(0, 1, 1, 0, 2);
        check.due("10", x.price(3, 3));
        x.layer(0, 60);
        check.due("10", x.price(3, 3));
        x.bound(0, 12);
        check.due("6", x.price(3, 3));
        check.throwsIndex(() -> x.price(4, 4));
        check.throwsIndex(() -> x.price(-1, 0));
        check.throwsArgument(() -> x.price(3, 4));
        check.throwsArgument(() -> x.price(3, -1));
    }

    private static void share() {
        check.part("promise 32");
        Poolward x = pair();
        x.load(1, 2);
        x.tail(1, 2);
        check.due("6", x.share(3, 0, 1));
        check.due("16/3", x.share(3, 1, 1));
        check.due("28/3", x.share(3, 0, 2));
        check.due("20/3", x.share(1, 0, 1));
        check.due("8", x.share(3, 0, 3));
        check.due("6", x.share(3, 1, 0));
        x.person(0, 12, 0, 0);
        check.due(shareOverOrders(x, 1), x.share(7, 0, 1));
        check.due(shareOverOrders(x, 2), x.share(7, 0, 2));
        check.throwsIndex(() -> x.share(8, 0, 4));
        check.throwsIndex(() -> x.share(-1, 0, 0));
        check.throwsIndex(() -> x.share(3, 3, 4));
        check.throwsIndex(() -> x.share(3, -1, 0));
        check.throwsArgument(() -> x.share(3, 2, 0));
        check.throwsArgument(() -> x.share(0, 0, 0));
        check.throwsArgument(() -> x.share(3, 0, 4));
        check.throwsArgument(() -> x.share(3, 0, -1));
    }

    /** The first of three, from the prices: over all six orders the mean of what it adds. */
    private static String shareOverOrders(Poolward x, int rule) {
        Fraction[] p = new Fraction[8];
        for (int set = 0; set < 8; set++) {
            String[] parts = x.price(set, rule).split("/");
            p[set] = Fraction.of(Long.parseLong(parts[0]),
                    parts.length > 1 ? Long.parseLong(parts[1]) : 1);
        }
        Fraction two = Fraction.of(2);
        return p[1].minus(p[0]).times(two)
                .plus(p[3].minus(p[2])).plus(p[5].minus(p[4]))
                .plus(p[7].minus(p[6]).times(two)).over(Fraction.of(6)).toString();
    }

    private static void sharingOfTwo() {
        check.part("promise 33, two");
        Poolward x = pair();
        x.tail(1, 2);
        check.due("0=16/3 1=6", x.sharing(3, 1));
        check.due("0=4 1=4", x.sharing(3, 0));
        x.person(1, 8, 0, 0);
        x.load(1, 1);
        check.due("0=44/3 2=20", x.sharing(5, 2));
        check.due("1=-8 2=20", x.sharing(6, 2));
        x.person(0, 0, 1, 2);
        check.due("! 0 3", x.sharing(9, 2));
        check.due("1=8 3=5/3", x.sharing(10, 2));
        check.throwsIndex(() -> x.sharing(16, 4));
        check.throwsIndex(() -> x.sharing(-1, 0));
        check.throwsArgument(() -> x.sharing(0, 0));
        check.throwsArgument(() -> x.sharing(1, 0));
        check.throwsArgument(() -> x.sharing(15, 0));
        check.throwsArgument(() -> x.sharing(3, 4));
        check.throwsArgument(() -> x.sharing(3, -1));
    }

    private static void sharingOfThree() {
        check.part("promise 33, three");
        Poolward x = bound3(new int[] {0, 8}, new int[] {8, 0}, new int[] {3, 1});
        check.due("0=0 1=8 2=3", x.sharing(7, 3));
        check.due("0=8 1=8 2=4", x.sharing(7, 0));
        check.due("0=-12 1=20 2=3", x.sharing(7, 2));
        check.due("0=12 2=3", x.sharing(5, 2));
    }

    private static void proofs() {
        check.part("promise 33, proofs");
        int[] small = {0, 4};
        int[] alike = {0, 12};
        int[] other = {9, 0};
        check.due("! 0 1,2", bound3(small, alike, other).sharing(7, 2));
        check.due("! 1 0,2", bound3(alike, small, other).sharing(7, 2));
        check.due("! 2 0,1", bound3(other, alike, small).sharing(7, 2));
        check.due("! 0 1 2", bound3(small, alike, alike).sharing(7, 2));
        Poolward x = bound3(other, new int[] {1, 1}, small);
        x.person(0, alike[0], alike[1], 0);
        check.due("! 2 0,3", x.sharing(13, 2));
        check.due("! 2 3", x.sharing(12, 2));
        check.due("! 1 2 3", x.sharing(14, 2));
    }

    private static void gain() {
        check.part("promise 34");
        Poolward x = pair();
        x.load(1, 2);
        check.due("2", x.gain(0, 1, 0, 0));
        check.due("-2", x.gain(0, 0, 4, 0));
        check.due("0", x.gain(0, 1, 4, 2));
        check.due("4", x.gain(0, 2, 0, 3));
        check.due("0", x.gain(1, 2, 0, 3));
        check.due("0", x.gain(0, 1, 8, 3));
        check.due(4, x.ofPerson(0, 2));
        check.due(0, x.ofPerson(0, 1));
        check.throwsIndex(() -> x.gain(2, 0, 13, 0));
        check.throwsIndex(() -> x.gain(-1, 0, 0, 0));
        check.throwsIndex(() -> x.gain(0, 3, 0, 4));
        check.throwsIndex(() -> x.gain(0, -1, 0, 0));
        check.throwsArgument(() -> x.gain(0, 0, 13, 0));
        check.throwsArgument(() -> x.gain(0, 0, -1, 0));
        check.throwsArgument(() -> x.gain(0, 0, 0, 4));
        check.throwsArgument(() -> x.gain(0, 0, 0, -1));
    }

    // ---- promises 35 and 36

    private static void ruins() {
        check.part("promise 35");
        Poolward x = pair();
        check.due("1/6", x.ruin(0, 12, 1));
        check.due("0", x.ruin(2, 12, 1));
        check.due("1", x.ruin(0, 0, 1));
        check.due("1/6", x.ruin(1, 12, 2));
        check.due("2/9", x.ruin(0, 10, 2));
        check.due("0", x.ruin(60, 0, 3));
        check.due("1/216", x.ruin(41, 0, 3));
        check.throwsArgument(() -> x.ruin(61, 0, 1));
        check.throwsArgument(() -> x.ruin(-1, 0, 1));
        check.throwsArgument(() -> x.ruin(0, 13, 1));
        check.throwsArgument(() -> x.ruin(0, -1, 1));
        check.throwsArgument(() -> x.ruin(0, 0, 0));
        check.throwsArgument(() -> x.ruin(0, 0, 4));
        check.part("promise 36");
        check.due(0, x.least(10, 2, 2, 9));
        check.due(4, x.least(10, 2, 1, 9));
        check.due(4, x.least(10, 2, 1, 36));
        check.due(8, x.least(10, 2, 1, 37));
        check.due(8, x.least(10, 2, 0, 5));
        check.due(0, x.least(0, 3, 99, 1));
        check.due(42, x.least(0, 3, 0, 1));
        check.due(-8, x.least(10, 2, 1, 0));
        check.throwsArgument(() -> x.least(13, 1, 1, 0));
        check.throwsArgument(() -> x.least(-1, 1, 1, 1));
        check.throwsArgument(() -> x.least(0, 0, 1, 1));
        check.throwsArgument(() -> x.least(0, 4, 1, 0));
        check.throwsArgument(() -> x.least(0, 1, 100, 1));
        check.throwsArgument(() -> x.least(0, 1, -1, 1));
        check.throwsArgument(() -> x.least(0, 1, 1, 100));
        check.throwsArgument(() -> x.least(0, 1, 1, -1));
        x.layer(0, 60);
        check.due("0", x.ruin(0, 0, 3));
        check.due(0, x.least(0, 3, 0, 1));
        x.unlayer(0);
        x.bound(0, 12);
        check.due("1/2", x.ruin(0, 5, 1));
        check.due("0", new Poolward().ruin(0, 0, 3));
        mostRuin();
    }

    /** The greatest sums that can come. */
    private static void mostRuin() {
        Poolward x = new Poolward();
        for (int i = 0; i < 5; i++) {
            x.person(0, 12, 12, 12);
        }
        check.due("60:1", x.law(31, 0));
        check.due("60", x.mean(31, 4));
        check.due("1", x.atMost(31, 0, 60));
        check.due("0", x.atMost(31, 0, 59));
        check.due(60, x.mark(31, 0, 1, 1));
        check.due("60", x.worst(31, 0, 1, 9));
        check.due("60", x.price(31, 3));
        check.due("1", x.ruin(60, 0, 2));
        check.due("0", x.ruin(60, 0, 1));
        check.due(180, x.least(0, 3, 98, 99));
        check.due(144, x.least(12, 3, 0, 1));
        check.due(-60, x.year(2, 2, 2));
        check.due(1, x.ofPerson(4, 5));
    }

    // ---- promises 37 to 45

    private static void livesAndSteps() {
        premiumAndPutBy();
        life();
        two();
        longRunAndMeanRate();
        cost();
        hurdleAndPays();
    }

    private static void premiumAndPutBy() {
        check.part("promises 37 and 38");
        Poolward x = new Poolward();
        x.table(0, 0, 10, 10, 0);
        x.policy(0, 1, 10, 20, 5);
        check.due("15/2", x.premium(0));
        check.due("0", x.putBy(0, 0, false));
        check.due("25", x.putBy(0, 0, true));
        check.due("5", x.putBy(0, 1, false));
        check.due("5", x.putBy(0, 1, true));
        x.table(0, 1, 20, 5, 50);
        x.policy(0, 3, 40, 10, 20);
        check.due("145/12", x.premium(0));
        check.due("185/48", x.putBy(0, 1, false));
        check.due("40", x.putBy(0, 1, true));
        check.due("20", x.putBy(0, 3, false));
        x.interest(25);
        check.due("4032/1265", x.putBy(0, 1, false));
        check.due("0", x.premium(1));
        x.table(0, 0, 0, 100, 0);
        check.due("32", x.premium(0));
        check.throwsIndex(() -> x.premium(2));
        check.throwsIndex(() -> x.premium(-1));
        check.throwsIndex(() -> x.putBy(2, 0, true));
        check.throwsIndex(() -> x.putBy(-1, 0, true));
        check.throwsIndex(() -> x.putBy(0, 4, false));
        check.throwsIndex(() -> x.putBy(0, -1, false));
        check.throwsIndex(() -> x.putBy(1, 2, false));
    }

    private static void life() {
        check.part("promise 39");
        Poolward x = new Poolward();
        x.table(0, 0, 10, 10, 99);
        x.table(0, 1, 20, 5, 50);
        check.due("1", x.life(0, 0, 0));
        check.due("0", x.life(0, 0, 1));
        check.due("1/10", x.life(0, 1, 1));
        check.due("3/5", x.life(0, 2, 0));
        check.due("21/100", x.life(0, 2, 1));
        check.due("19/100", x.life(0, 6, 2));
        check.due("1", x.life(1, 6, 0));
        check.throwsIndex(() -> x.life(2, 7, 3));
        check.throwsIndex(() -> x.life(-1, 0, 0));
        check.throwsArgument(() -> x.life(0, 7, 0));
        check.throwsArgument(() -> x.life(0, -1, 0));
        check.throwsArgument(() -> x.life(0, 0, 3));
        check.throwsArgument(() -> x.life(0, 0, -1));
    }

    private static void two() {
        check.part("promise 40");
        Poolward x = new Poolward();
        x.table(0, 0, 50, 10, 0);
        x.table(1, 0, 0, 20, 0);
        x.table(1, 1, 0, 50, 0);
        check.due("1", x.two(0, true, false));
        check.due("18/25", x.two(1, true, false));
        check.due("49/50", x.two(1, false, false));
        check.due("9/25", x.two(2, true, false));
        check.due("27/25", x.two(2, true, true));
        check.due("0", x.two(0, false, true));
        x.interest(50);
        check.due("12/25", x.two(1, true, true));
        check.due("16/25", x.two(2, true, true));
        check.due("9/25", x.two(2, true, false));
        check.throwsArgument(() -> x.two(7, true, true));
        check.throwsArgument(() -> x.two(-1, false, false));
    }

    private static void longRunAndMeanRate() {
        check.part("promises 41 and 42");
        Poolward x = new Poolward();
        x.rate(0, 131);
        x.rate(4, 69);
        x.harm(1, 3, 0, 1);
        String[] due = {"1/31", "2/31", "4/31", "8/31", "16/31"};
        for (int step = 0; step < due.length; step++) {
            check.due(due[step], x.longRun(step));
        }
        check.due("85", x.meanRate());
        x.harm(1, 2, 0, 4);
        check.due("1/2", x.longRun(0));
        check.due("1/16", x.longRun(4));
        x.harm(0, 5, 0, 2);
        check.due("1", x.longRun(4));
        check.due("0", x.longRun(0));
        check.due("69", x.meanRate());
        x.harm(5, 5, 0, 2);
        check.due("1", x.longRun(0));
        check.due("131", x.meanRate());
        check.throwsIndex(() -> x.longRun(5));
        check.throwsIndex(() -> x.longRun(-1));
    }

    private static void cost() {
        check.part("promise 43");
        Poolward x = new Poolward();
        x.rate(0, 200);
        x.rate(4, 50);
        x.harm(1, 2, 10, 1);
        check.due("0", x.cost(3, 0));
        check.due("200", x.cost(0, 1));
        check.due("205", x.cost(1, 2));
        check.due("305", x.cost(0, 2));
        check.due("105", x.cost(4, 2));
        x.harm(1, 2, 0, 1);
        check.due("200", x.cost(1, 2));
        x.harm(1, 2, 500, 1);
        check.due("250", x.cost(1, 2));
        x.harm(1, 1, 500, 1);
        check.due("300", x.cost(1, 2));
        check.throwsIndex(() -> x.cost(5, 7));
        check.throwsIndex(() -> x.cost(-1, 0));
        check.throwsArgument(() -> x.cost(0, 7));
        check.throwsArgument(() -> x.cost(0, -1));
    }

    private static void hurdleAndPays() {
        check.part("promises 44 and 45");
        Poolward x = new Poolward();
        x.rate(0, 200);
        x.rate(4, 50);
        x.harm(1, 2, 99, 1);
        check.due("100", x.hurdle(1, 1));
        check.due("100", x.hurdle(0, 1));
        check.due("50", x.hurdle(4, 1));
        check.due("0", x.hurdle(2, 0));
        check.due("0", x.hurdle(2, 1));
        check.due(true, x.pays(1, 1));
        check.due(false, x.pays(4, 1));
        check.due(false, x.pays(2, 0));
        x.harm(1, 2, 100, 1);
        check.due(false, x.pays(1, 1));
        x.harm(1, 2, 0, 4);
        check.due(false, x.pays(3, 0));
        check.due("150", x.hurdle(3, 1));
        check.due(true, x.pays(3, 1));
        check.throwsIndex(() -> x.hurdle(5, 7));
        check.throwsIndex(() -> x.hurdle(-1, 0));
        check.throwsArgument(() -> x.hurdle(0, 7));
        check.throwsArgument(() -> x.hurdle(0, -1));
        check.throwsIndex(() -> x.pays(5, 7));
        check.throwsIndex(() -> x.pays(-1, 0));
        check.throwsArgument(() -> x.pays(0, 7));
        check.throwsArgument(() -> x.pays(0, -1));
    }

    // ---- promises 46 to 52

    private static void claimsAndPools() {
        queue();
        run();
        growthAndToCome();
        pools();
        owes();
    }

    private static Poolward claimed() {
        Poolward x = pair();
        x.claim(0, 0, 30, 10);
        x.claim(1, 24, 0, 20);
        x.claim(0, 20, 60, 6);
        x.claim(1, 25, 5, 8);
        x.claim(1, 49, 1, 4);
        return x;
    }

    private static void queue() {
        check.part("promise 46");
        Poolward x = claimed();
        check.due("1@24 0@30 3@30 4@50 2@80", x.queue(99));
        check.due("1@24 0@30 3@30", x.queue(49));
        check.due("1@24", x.queue(24));
        check.due("", x.queue(23));
        check.throwsArgument(() -> x.queue(100));
        check.throwsArgument(() -> x.queue(-1));
    }

    private static void run() {
        check.part("promise 47");
        Poolward x = claimed();
        int[][] due = {{20, 30, 30, 36}, {8, 12, 12, 12}, {0, 0, 0, 0}, {0, 0, 0, 0}};
        for (int i = 0; i < 4; i++) {
            for (int j = 0; j < 4; j++) {
                check.due(due[i][j], x.run(i, j));
            }
        }
        check.throwsArgument(() -> x.run(4, 0));
        check.throwsArgument(() -> x.run(-1, 0));
        check.throwsArgument(() -> x.run(0, 4));
        check.throwsArgument(() -> x.run(0, -1));
    }

    private static void growthAndToCome() {
        check.part("promises 48 and 49");
        Poolward x = claimed();
        check.due("3/2", x.growth(0, 1));
        check.due("3/2", x.growth(0, 3));
        check.due("1", x.growth(1, 2));
        check.due("6/5", x.growth(2, 3));
        check.due("-", x.growth(2, 2));
        check.due("-", x.growth(0, 0));
        check.due("0", x.toCome(0, 0));
        check.due("4", x.toCome(1, 1));
        check.due("12/5", x.toCome(1, 3));
        check.due("0", x.toCome(3, 3));
        check.throwsArgument(() -> x.growth(3, 3));
        check.throwsArgument(() -> x.growth(-1, 3));
        check.throwsArgument(() -> x.growth(0, 4));
        check.throwsArgument(() -> x.growth(0, -1));
        check.throwsArgument(() -> x.toCome(2, 1));
        check.throwsArgument(() -> x.toCome(4, 4));
        check.throwsArgument(() -> x.toCome(-1, 0));
        check.throwsArgument(() -> x.toCome(0, 4));
        Poolward none = pair();
        check.due("0", none.toCome(0, 3));
        check.due("-", none.toCome(1, 3));
        check.due("-", none.growth(1, 3));
    }

    private static void pools() {
        check.part("promises 50 and 51");
        Poolward x = new Poolward();
        x.bears(0, 10);
        x.contract(0, 1, 5);
        x.contract(1, 0, 5);
        check.due(5, x.tenths(0, 1));
        check.due(0, x.tenths(0, 2));
        check.due(0, x.tenths(3, 3));
        check.throwsIndex(() -> x.tenths(4, 0));
        check.throwsIndex(() -> x.tenths(0, 4));
        check.throwsIndex(() -> x.tenths(-1, 0));
        check.throwsIndex(() -> x.tenths(0, -1));
        check.due("10", x.pool(0, 0));
        check.due("40/3", x.pool(0, 1));
        check.due("20/3", x.pool(0, 2));
        check.due("10/3", x.pool(1, 2));
        check.due("0", x.pool(3, 1));
        x.contract(2, 3, 10);
        x.contract(3, 2, 10);
        check.due("-", x.pool(0, 1));
        check.due("-", x.pool(0, 2));
        check.due("10", x.pool(0, 0));
        x.contract(3, 2, 9);
        check.due("40/3", x.pool(0, 1));
        check.throwsIndex(() -> x.pool(4, 3));
        check.throwsIndex(() -> x.pool(-1, 0));
        check.throwsArgument(() -> x.pool(0, 3));
        check.throwsArgument(() -> x.pool(0, -1));
    }

    private static void owes() {
        check.part("promise 52");
        Poolward x = new Poolward();
        check.due("", x.owes());
        x.bears(0, 10);
        x.bears(3, 20);
        check.due("", x.owes());
        x.contract(0, 1, 5);
        check.due("1<0=5", x.owes());
        x.contract(3, 1, 3);
        x.contract(3, 2, 2);
        check.due("1<0=5 1<3=6 2<3=4", x.owes());
        x.contract(1, 2, 10);
        check.due("2<0=5 2<3=10", x.owes());
        x.contract(2, 1, 10);
        check.due("-", x.owes());
    }

    // ---- promises 53 to 56

    private static void theHouse() {
        ofPerson();
        house();
        isSoundAndDigest();
        askedTwice();
        largestNumbers();
    }

    private static void ofPerson() {
        check.part("promise 53");
        Poolward x = pair();
        x.bound(1, 7);
        x.year(1, 1, 1);
        int[] due = {1, 2, 6, 12, 7, 1, 6};
        for (int what = 0; what < due.length; what++) {
            check.due(due[what], x.ofPerson(1, what));
        }
        check.throwsIndex(() -> x.ofPerson(2, 7));
        check.throwsIndex(() -> x.ofPerson(-1, 0));
        check.throwsArgument(() -> x.ofPerson(0, 7));
        check.throwsArgument(() -> x.ofPerson(0, -1));
    }

    private static void house() {
        check.part("promise 54");
        Poolward x = pair();
        x.layer(5, 5);
        x.claim(0, 1, 1, 1);
        x.claim(0, 1, 1, 1);
        x.claim(0, 1, 1, 1);
        x.till(31, 11);
        x.interest(7);
        x.harm(1, 9, 333, 3);
        x.knock();
        int[] due = {2, 1, 3, 31, 11, 7, 333, 3, 8, 1};
        for (int what = 0; what < due.length; what++) {
            check.due(due[what], x.house(what));
        }
        check.throwsArgument(() -> x.house(10));
        check.throwsArgument(() -> x.house(-1));
    }

    private static void isSoundAndDigest() {
        check.part("promises 55 and 56");
        check.due(true, new Poolward().isSound());
        check.due(new Model().digest(), new Poolward().digest());
        Poolward x = Houses.furnished();
        check.due(true, x.isSound());
        check.due(true, bound3(new int[] {0, 4}, new int[] {0, 12}, new int[] {9, 0}).isSound());
        long before = x.digest();
        check.due(before, x.digest());
        x.knock();
        check.due(false, before == x.digest());
    }

    /** To ask changes nothing: what is asked again is answered as before. */
    private static void askedTwice() {
        check.part("asked twice");
        Poolward x = Houses.furnished();
        x.harm(97, 98, 40, 2);
        String cost = x.cost(2, 6);
        String told = Telling.withCounts(x);
        check.due(told, Telling.withCounts(x));
        check.due(cost, x.cost(2, 6));
    }

    /** The widest bottoms that can be told, where numbers grow most. */
    private static void largestNumbers() {
        check.part("largest numbers");
        Poolward x = new Poolward();
        Model m = new Model();
        int[][] chances = {{1, 57, 1, 59}, {29, 1, 30, 60}, {1, 50, 2, 53}};
        for (int g = 0; g < 3; g++) {
            int[] c = chances[g];
            check.due(m.chances(g, c[0], c[1], c[2], c[3]), x.chances(g, c[0], c[1], c[2], c[3]));
        }
        for (int i = 0; i < 5; i++) {
            check.due(m.person(i % 3, 0, 12, 1), x.person(i % 3, 0, 12, 1));
        }
        check.due(m.load(97, 49) + m.load(95, 97), x.load(97, 49) + x.load(95, 97));
        check.due(m.tail(89, 97), x.tail(89, 97));
        for (int rule = 0; rule < 4; rule++) {
            check.due(m.gain(0, 1, 0, rule), x.gain(0, 1, 0, rule));
            check.due(m.share(31, 4, rule), x.share(31, 4, rule));
        }
        check.due(m.ruin(60, 1, 3), x.ruin(60, 1, 3));
        check.due(m.least(1, 3, 98, 99), x.least(1, 3, 98, 99));
        for (int i = 0; i < 6; i++) {
            check.due(m.table(0, i, 7, 1, 3), x.table(0, i, 7, 1, 3));
            check.due(m.table(1, i, 1, 0, 1), x.table(1, i, 1, 0, 1));
        }
        largestWorths(x, m, 49);
        largestWorths(x, m, 50);
        largestWorths(x, m, 0);
        check.due(m.harm(97, 98, 499, 3), x.harm(97, 98, 499, 3));
        check.due(m.cost(4, 6), x.cost(4, 6));
        check.due(m.meanRate(), x.meanRate());
        check.due(m.digest(), x.digest());
    }

    private static void largestWorths(Poolward x, Model m, int interest) {
        check.due(m.interest(interest), x.interest(interest));
        for (int table = 0; table < 2; table++) {
            check.due(m.policy(table, 6, 98, 99, 97), x.policy(table, 6, 98, 99, 97));
            check.due(m.premium(table), x.premium(table));
            for (int year = 0; year <= 6; year++) {
                check.due(m.putBy(table, year, false), x.putBy(table, year, false));
                check.due(m.putBy(table, year, true), x.putBy(table, year, true));
            }
        }
        for (int kind = 0; kind < 4; kind++) {
            boolean isBoth = kind % 2 == 0;
            check.due(m.two(6, isBoth, kind > 1), x.two(6, isBoth, kind > 1));
        }
    }
}
