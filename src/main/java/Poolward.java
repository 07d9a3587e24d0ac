import java.util.Arrays;

/**
 * A house in which risks are carried together; what it promises stands in DOC.md.
 *
 * <p>Chances and prices are held as whole numbers over one common bottom, in rows that are made
 * with the house: all calls of a run share one room, so a call makes nothing but its text.
 */
public final class Poolward {
    private static final int BY_ZERO = -8;
    private static final int NOT_LET = -9;

    private static final int GROUPS = 3;
    private static final int STATES = 3;
    private static final int CASES = 27;
    private static final int MOST_COINS = 12;
    private static final int MOST_PERSONS = 5;
    private static final int MOST_LAYERS = 3;
    private static final int LAYER_CELLS = 2;
    private static final int MOST_CLAIMS = 10;
    private static final int MOST_SUM = MOST_PERSONS * MOST_COINS;
    private static final int MOST_UNDONE = 8;

    private static final int KINDS = 5;
    private static final int LOSS = 0;
    private static final int OWN = 1;
    private static final int POOLED = 2;
    private static final int SOLD = 3;
    private static final int NET = 4;

    private static final int RULES = 4;
    private static final int BY_SPREAD = 2;

    // What a person is made of, as ofPerson counts it.
    private static final int PERSON_CELLS = 7;
    private static final int FIRST_LOSS = 1;
    private static final int BOUND = 4;
    private static final int STEP = 5;
    private static final int BORNE = 6;

    private static final int TABLES = 2;
    private static final int LIFE_YEARS = 6;
    private static final int TABLE_CELLS = 3;
    private static final int POLICY_CELLS = 4;
    private static final int STEPS = 5;
    private static final int HARM_TOP = 0;
    private static final int HARM_BOTTOM = 1;
    private static final int SIZE = 2;
    private static final int DROP = 3;
    private static final int CLAIM_CELLS = 4;
    private static final int CLAIM_YEARS = 4;
    private static final int DAYS_A_YEAR = 25;
    private static final int LAST_DAY = 99;
    private static final int POOLS = 4;
    private static final int WHOLE = 10;

    private final House house;
    private final House[] past;
    private int pastCount;
    private int pastNext;
    private int knocks;
    private final Paper paper;
    private final Law law;
    private final Prices prices;
    private final Sharing sharing;
    private final Ruin ruin;
    private final Lives lives;
    private final Steps steps;
    private final Claims claims;
    private final Pools pools;

    public Poolward() {
        House told = new House();
        Law sums = new Law(told);
        Prices asked = new Prices(told, sums);
        house = told;
        law = sums;
        prices = asked;
        paper = new Paper();
        sharing = new Sharing();
        ruin = new Ruin(told, sums);
        lives = new Lives(told);
        steps = new Steps(told);
        claims = new Claims(told);
        pools = new Pools(told);
        past = new House[MOST_UNDONE];
        for (int i = 0; i < MOST_UNDONE; i++) {
            past[i] = new House();
        }
    }

    // ---- changes

    public int chances(int group, int a, int b, int c, int bottom)
            throws IndexOutOfBoundsException, IllegalArgumentException {
        needIndex(group, GROUPS);
        need(isUpTo(a, 60) && isUpTo(b, 60) && isUpTo(c, 60) && isUpTo(bottom, 60));
        if (bottom == 0) {
            return BY_ZERO;
        }
        if (a + b + c != bottom) {
            return NOT_LET;
        }
        remember();
        int first = STATES * group;
        house.chanceTops[first] = a;
        house.chanceTops[first + 1] = b;
        house.chanceTops[first + 2] = c;
        house.chanceBottoms[group] = bottom;
        return law.possibleCases();
    }

    public int person(int group, int a, int b, int c)
            throws IndexOutOfBoundsException, IllegalArgumentException, IllegalStateException {
        needIndex(group, GROUPS);
        need(isUpTo(a, MOST_COINS) && isUpTo(b, MOST_COINS) && isUpTo(c, MOST_COINS));
        needRoom(house.persons, MOST_PERSONS);
        remember();
        int number = house.persons;
        int first = PERSON_CELLS * number;
        house.people[first] = group;
        house.people[first + FIRST_LOSS] = a;
        house.people[first + FIRST_LOSS + 1] = b;
        house.people[first + FIRST_LOSS + 2] = c;
        house.people[first + BOUND] = 0;
        house.people[first + STEP] = 2;
        house.people[first + BORNE] = 0;
        house.persons++;
        return number;
    }

    public int loss(int person, int state, int coins)
            throws IndexOutOfBoundsException, IllegalArgumentException {
        needIndex(person, house.persons);
        needIndex(state, STATES);
        need(isUpTo(coins, MOST_COINS));
        remember();
        return swap(house.people, PERSON_CELLS * person + FIRST_LOSS + state, coins);
    }

    public int bound(int person, int coins)
            throws IndexOutOfBoundsException, IllegalArgumentException {
        needIndex(person, house.persons);
        need(isUpTo(coins, MOST_COINS));
        remember();
        return swap(house.people, PERSON_CELLS * person + BOUND, coins);
    }

    public int layer(int from, int width) throws IllegalArgumentException, IllegalStateException {
        need(isUpTo(from, 59) && isFromTo(width, 1, 60));
        needRoom(house.layers, MOST_LAYERS);
        if (house.liesOverLayer(from, width)) {
            return NOT_LET;
        }
        remember();
        int number = house.layers;
        house.layerCells[LAYER_CELLS * number] = from;
        house.layerCells[LAYER_CELLS * number + 1] = width;
        house.layers++;
        return number;
    }

    public int unlayer(int layer) throws IndexOutOfBoundsException {
        needIndex(layer, house.layers);
        remember();
        house.layers--;
        for (int cell = LAYER_CELLS * layer; cell < LAYER_CELLS * house.layers; cell++) {
            house.layerCells[cell] = house.layerCells[cell + LAYER_CELLS];
        }
        return house.layers;
    }

    public int load(int top, int bottom) throws IllegalArgumentException {
        need(isUpTo(top, 99) && isUpTo(bottom, 99));
        if (bottom == 0) {
            return BY_ZERO;
        }
        if (top > 2 * bottom) {
            return NOT_LET;
        }
        return tellFraction(house.load, top, bottom);
    }

    public int tail(int top, int bottom) throws IllegalArgumentException {
        need(isUpTo(top, 99) && isUpTo(bottom, 99));
        if (bottom == 0) {
            return BY_ZERO;
        }
        if (top == 0 || top > bottom) {
            return NOT_LET;
        }
        return tellFraction(house.tail, top, bottom);
    }

    public int till(int money, int income) throws IllegalArgumentException {
        need(isUpTo(money, 60) && isUpTo(income, 12));
        remember();
        int before = house.money;
        house.money = money;
        house.income = income;
        return before;
    }

    public int year(int a, int b, int c) throws IndexOutOfBoundsException {
        needStates(a, b, c);
        remember();
        law.gather(house.everyone(), NET);
        house.money += house.income - law.sumIn(a, b, c);
        for (int person = 0; person < house.persons; person++) {
            int first = PERSON_CELLS * person;
            int loss = house.lossIn(person, a, b, c);
            int step = house.people[first + STEP];
            house.people[first + BORNE] += Math.min(loss, house.people[first + BOUND]);
            house.people[first + STEP] = loss > 0 ? house.stepBelow(step) : house.stepAbove(step);
        }
        return house.money;
    }

    public int table(int table, int year, int fall, int die, int illDie)
            throws IndexOutOfBoundsException, IllegalArgumentException {
        needIndex(table, TABLES);
        needIndex(year, LIFE_YEARS);
        need(isUpTo(fall, 100) && isUpTo(die, 100) && isUpTo(illDie, 100));
        if (fall + die > 100) {
            return NOT_LET;
        }
        remember();
        int first = house.tableCell(table, year);
        int others = swap(house.tables, first, fall) == fall ? 0 : 1;
        others += swap(house.tables, first + 1, die) == die ? 0 : 1;
        others += swap(house.tables, first + 2, illDie) == illDie ? 0 : 1;
        return others;
    }

    public int policy(int table, int term, int death, int ill, int end)
            throws IndexOutOfBoundsException, IllegalArgumentException {
        needIndex(table, TABLES);
        need(isFromTo(term, 1, LIFE_YEARS));
        need(isUpTo(death, 99) && isUpTo(ill, 99) && isUpTo(end, 99));
        remember();
        int first = POLICY_CELLS * table;
        house.policies[first + 1] = death;
        house.policies[first + 2] = ill;
        house.policies[first + 3] = end;
        return swap(house.policies, first, term);
    }

    public int interest(int hundredths) throws IllegalArgumentException {
        need(isUpTo(hundredths, 50));
        remember();
        int before = house.interest;
        house.interest = hundredths;
        return before;
    }

    public int rate(int step, int rate) throws IndexOutOfBoundsException, IllegalArgumentException {
        needIndex(step, STEPS);
        need(isUpTo(rate, 300));
        remember();
        return swap(house.rates, step, rate);
    }

    public int harm(int top, int bottom, int size, int drop) throws IllegalArgumentException {
        need(isUpTo(top, 99) && isUpTo(bottom, 99));
        need(isUpTo(size, 500) && isFromTo(drop, 1, 4));
        if (bottom == 0) {
            return BY_ZERO;
        }
        if (top > bottom) {
            return NOT_LET;
        }
        remember();
        house.harm[HARM_TOP] = top;
        house.harm[HARM_BOTTOM] = bottom;
        house.harm[SIZE] = size;
        return swap(house.harm, DROP, drop);
    }

    public int claim(int person, int day, int lag, int coins)
            throws IndexOutOfBoundsException, IllegalArgumentException, IllegalStateException {
        needIndex(person, house.persons);
        need(isUpTo(day, LAST_DAY) && isUpTo(lag, LAST_DAY) && isFromTo(coins, 1, 99));
        need(day + lag <= LAST_DAY);
        needRoom(house.claims, MOST_CLAIMS);
        remember();
        int number = house.claims;
        int first = CLAIM_CELLS * number;
        house.claimCells[first] = person;
        house.claimCells[first + 1] = day;
        house.claimCells[first + 2] = day + lag;
        house.claimCells[first + 3] = coins;
        house.claims++;
        return number;
    }

    public int bears(int pool, int coins)
            throws IndexOutOfBoundsException, IllegalArgumentException {
        needIndex(pool, POOLS);
        need(isUpTo(coins, 99));
        remember();
        return swap(house.poolBears, pool, coins);
    }

    public int contract(int pool, int other, int tenths)
            throws IndexOutOfBoundsException, IllegalArgumentException {
        needIndex(pool, POOLS);
        needIndex(other, POOLS);
        need(pool != other && isUpTo(tenths, WHOLE));
        int cell = POOLS * pool + other;
        if (house.handedOn(pool) - house.tenths[cell] + tenths > WHOLE) {
            return NOT_LET;
        }
        remember();
        return swap(house.tenths, cell, tenths);
    }

    public int undo() throws IllegalStateException {
        if (pastCount == 0) {
            throw new IllegalStateException("nothing can be undone");
        }
        pastNext = (pastNext + MOST_UNDONE - 1) % MOST_UNDONE;
        pastCount--;
        house.copyFrom(past[pastNext]);
        return pastCount;
    }

    public int knock() {
        knocks++;
        return knocks;
    }

    // ---- cases, laws

    public String chance(int a, int b, int c) throws IndexOutOfBoundsException {
        needStates(a, b, c);
        return textOf(law.weightOf(a, b, c), law.bottom());
    }

    public int hit(int a, int b, int c) throws IndexOutOfBoundsException {
        needStates(a, b, c);
        int set = 0;
        for (int person = 0; person < house.persons; person++) {
            if (house.lossIn(person, a, b, c) > 0) {
                set |= 1 << person;
            }
        }
        return set;
    }

    public int sum(int set, int kind, int a, int b, int c)
            throws IndexOutOfBoundsException, IllegalArgumentException {
        needSet(set);
        needStates(a, b, c);
        need(isUpTo(kind, KINDS - 1));
        law.gather(set, kind);
        return law.sumIn(a, b, c);
    }

    public String law(int set, int kind)
            throws IndexOutOfBoundsException, IllegalArgumentException {
        needLaw(set, kind);
        paper.clear();
        writeLaw(set, kind);
        return paper.text();
    }

    public String mean(int set, int kind)
            throws IndexOutOfBoundsException, IllegalArgumentException {
        needLaw(set, kind);
        law.fill(set, kind);
        return textOf(law.meanTop(), law.bottom());
    }

    public String spread(int set, int kind)
            throws IndexOutOfBoundsException, IllegalArgumentException {
        needLaw(set, kind);
        paper.clear();
        writeSpread(set, kind);
        return paper.text();
    }

    public String atMost(int set, int kind, int sum)
            throws IndexOutOfBoundsException, IllegalArgumentException {
        needLaw(set, kind);
        law.fill(set, kind);
        return textOf(law.weightUpTo(sum), law.bottom());
    }

    public int mark(int set, int kind, int top, int bottom)
            throws IndexOutOfBoundsException, IllegalArgumentException {
        needLaw(set, kind);
        need(isUpTo(top, 99) && isUpTo(bottom, 99));
        if (bottom == 0) {
            return BY_ZERO;
        }
        if (top == 0 || top > bottom) {
            return NOT_LET;
        }
        law.fill(set, kind);
        return law.leastReaching(top, bottom);
    }

    public String worst(int set, int kind, int top, int bottom)
            throws IndexOutOfBoundsException, IllegalArgumentException {
        needLaw(set, kind);
        need(isUpTo(top, 99) && isUpTo(bottom, 99));
        if (top == 0 || top > bottom) {
            return "-";
        }
        law.fill(set, kind);
        return textOf(law.worstTop(top, bottom), (long) top * law.bottom());
    }

    // ---- prices, shares

    public String price(int set, int rule)
            throws IndexOutOfBoundsException, IllegalArgumentException {
        needSet(set);
        need(isUpTo(rule, RULES - 1));
        paper.clear();
        writePrice(set, rule);
        return paper.text();
    }

    public String share(int set, int person, int rule)
            throws IndexOutOfBoundsException, IllegalArgumentException {
        needSet(set);
        needIndex(person, house.persons);
        need(isUpTo(rule, RULES - 1) && (set >> person & 1) == 1);
        prices.fill(set, rule);
        return textOf(prices.shareTop(set, person), prices.shareBottom(set, rule));
    }

    public String sharing(int set, int rule)
            throws IndexOutOfBoundsException, IllegalArgumentException {
        needSet(set);
        int size = Integer.bitCount(set);
        need(isUpTo(rule, RULES - 1) && (size == 2 || size == 3));
        paper.clear();
        writeSharing(set, rule);
        return paper.text();
    }

    public String gain(int person, int state, int coins, int rule)
            throws IndexOutOfBoundsException, IllegalArgumentException {
        needIndex(person, house.persons);
        needIndex(state, STATES);
        need(isUpTo(coins, MOST_COINS) && isUpTo(rule, RULES - 1));
        int all = house.everyone();
        int cell = PERSON_CELLS * person + FIRST_LOSS + state;
        prices.fill(all, rule);
        long truly = prices.shareTop(all, person);
        int before = swap(house.people, cell, coins);
        prices.fill(all, rule);
        long falsely = prices.shareTop(all, person);
        swap(house.people, cell, before);
        return textOf(truly - falsely, prices.shareBottom(all, rule));
    }

    // ---- ruin

    public String ruin(int money, int income, int years) throws IllegalArgumentException {
        need(isUpTo(money, 60) && isUpTo(income, 12) && isFromTo(years, 1, 3));
        paper.clear();
        writeRuin(money, income, years);
        return paper.text();
    }

    public int least(int income, int years, int top, int bottom) throws IllegalArgumentException {
        need(isUpTo(income, 12) && isFromTo(years, 1, 3));
        need(isUpTo(top, 99) && isUpTo(bottom, 99));
        if (bottom == 0) {
            return BY_ZERO;
        }
        ruin.fill(income, years);
        return ruin.leastMoney(years, top, bottom);
    }

    // ---- lives

    public String premium(int table) throws IndexOutOfBoundsException {
        needIndex(table, TABLES);
        paper.clear();
        writePremium(table);
        return paper.text();
    }

    public String putBy(int table, int year, boolean isIll) throws IndexOutOfBoundsException {
        needIndex(table, TABLES);
        needIndex(year, house.termOf(table) + 1);
        paper.clear();
        lives.writePutBy(table, year, isIll, paper);
        return paper.text();
    }

    public String life(int table, int years, int what)
            throws IndexOutOfBoundsException, IllegalArgumentException {
        needIndex(table, TABLES);
        need(isUpTo(years, LIFE_YEARS) && isUpTo(what, 2));
        lives.passYears(table, years);
        return textOf(lives.stateTop(what), power(100, years));
    }

    public String two(int years, boolean isBoth, boolean isWorth) throws IllegalArgumentException {
        need(isUpTo(years, LIFE_YEARS));
        paper.clear();
        if (isWorth) {
            lives.writeWorthOfTwo(years, isBoth, paper);
        } else {
            lives.writeChanceOfTwo(years, isBoth, paper);
        }
        return paper.text();
    }

    // ---- steps, harms

    public String longRun(int step) throws IndexOutOfBoundsException {
        needIndex(step, STEPS);
        steps.fillLongRun();
        return textOf(steps.longTop(step), steps.longBottom());
    }

    public String meanRate() {
        steps.fillLongRun();
        return textOf(steps.meanRateTop(), steps.longBottom());
    }

    public String cost(int step, int years)
            throws IndexOutOfBoundsException, IllegalArgumentException {
        needStepYears(step, years);
        steps.fillCosts(years);
        return textOf(steps.costTop(step), steps.costBottom());
    }

    public String hurdle(int step, int years)
            throws IndexOutOfBoundsException, IllegalArgumentException {
        needStepYears(step, years);
        steps.fillCosts(years);
        return textOf(steps.hurdleTop(step), steps.costBottom());
    }

    public boolean pays(int step, int years)
            throws IndexOutOfBoundsException, IllegalArgumentException {
        needStepYears(step, years);
        steps.fillCosts(years);
        return house.harm[SIZE] * steps.costBottom() < steps.hurdleTop(step);
    }

    // ---- claims

    public String queue(int day) throws IllegalArgumentException {
        need(isUpTo(day, LAST_DAY));
        paper.clear();
        claims.writeQueue(day, paper);
        return paper.text();
    }

    public int run(int i, int j) throws IllegalArgumentException {
        need(isUpTo(i, CLAIM_YEARS - 1) && isUpTo(j, CLAIM_YEARS - 1));
        return claims.coinsTold(i, j);
    }

    public String growth(int j, int t) throws IllegalArgumentException {
        need(isUpTo(j, CLAIM_YEARS - 2) && isUpTo(t, CLAIM_YEARS - 1));
        return textOf(claims.knownTogether(j, t, 1), claims.knownTogether(j, t, 0));
    }

    public String toCome(int i, int t) throws IllegalArgumentException {
        need(isUpTo(i, CLAIM_YEARS - 1) && isUpTo(t, CLAIM_YEARS - 1) && i <= t);
        paper.clear();
        claims.writeToCome(i, t, paper);
        return paper.text();
    }

    // ---- pools

    public int tenths(int pool, int other) throws IndexOutOfBoundsException {
        needIndex(pool, POOLS);
        needIndex(other, POOLS);
        return house.tenths[POOLS * pool + other];
    }

    public String pool(int pool, int what)
            throws IndexOutOfBoundsException, IllegalArgumentException {
        needIndex(pool, POOLS);
        need(isUpTo(what, 2));
        if (what == 0) {
            return textOf(house.poolBears[pool], 1);
        }
        pools.solve();
        return what == 1
                ? textOf(pools.allTop(pool), pools.bottom())
                : textOf(pools.holdsTop(pool), pools.holdsBottom());
    }

    public String owes() {
        paper.clear();
        pools.solve();
        pools.writeOwes(paper);
        return paper.text();
    }

    // ---- the house

    public int ofPerson(int person, int what)
            throws IndexOutOfBoundsException, IllegalArgumentException {
        needIndex(person, house.persons);
        need(isUpTo(what, PERSON_CELLS - 1));
        return house.people[PERSON_CELLS * person + what];
    }

    public int house(int what) throws IllegalArgumentException {
        need(isUpTo(what, 9));
        return numberOfHouse(what);
    }

    public boolean isSound() {
        return law.isOneTogether()
                && law.isSplitInEachCase()
                && law.isMeanOfParts()
                && prices.areSharedOut()
                && isSharingInNoWay()
                && ruin.isThatOfPairs()
                && lives.isNothingPutByFirst()
                && lives.isEachYearWhole()
                && steps.isLongRunKept()
                && pools.isAllHeld();
    }

    public long digest() {
        long d = 6907;
        for (int what = 0; what <= 9; what++) {
            d = mix(d, numberOfHouse(what));
        }
        for (int i = 0; i < PERSON_CELLS * house.persons; i++) {
            d = mix(d, house.people[i]);
        }
        d = mixSums(d);
        d = mixPrices(d);
        d = mixLives(d);
        d = mixSteps(d);
        d = mixClaims(d);
        d = mixPools(d);
        return mix(d, isSound() ? 1 : 0);
    }

    // ---- what a call may be refused for

    private static boolean isUpTo(int number, int most) {
        return number >= 0 && number <= most;
    }

    private static boolean isFromTo(int number, int least, int most) {
        return number >= least && number <= most;
    }

    private static void need(boolean isSo) {
        if (!isSo) {
            throw new IllegalArgumentException("out of its range");
        }
    }

    private static void needIndex(int number, int count) {
        if (number < 0 || number >= count) {
            throw new IndexOutOfBoundsException("no such number");
        }
    }

    private static void needRoom(int count, int most) {
        if (count >= most) {
            throw new IllegalStateException("no more of these");
        }
    }

    private static void needStates(int a, int b, int c) {
        needIndex(a, STATES);
        needIndex(b, STATES);
        needIndex(c, STATES);
    }

    private void needSet(int set) {
        needIndex(set, 1 << house.persons);
    }

    private void needLaw(int set, int kind) {
        needSet(set);
        need(isUpTo(kind, KINDS - 1));
    }

    private static void needStepYears(int step, int years) {
        needIndex(step, STEPS);
        need(isUpTo(years, 6));
    }

    // ---- changing

    private void remember() {
        past[pastNext].copyFrom(house);
        pastNext = (pastNext + 1) % MOST_UNDONE;
        pastCount = Math.min(pastCount + 1, MOST_UNDONE);
    }

    private static int swap(int[] cells, int i, int number) {
        if (i < 0 || i >= cells.length) {
            return 0;
        }
        int before = cells[i];
        cells[i] = number;
        return before;
    }

    private int tellFraction(int[] fraction, int top, int bottom) {
        remember();
        boolean isOther = fraction[0] * bottom != top * fraction[1];
        fraction[0] = top;
        fraction[1] = bottom;
        return isOther ? 1 : 0;
    }

    // ---- telling

    private String textOf(long top, long bottom) {
        paper.clear();
        paper.fraction(top, bottom);
        return paper.text();
    }

    private void writeLaw(int set, int kind) {
        law.fill(set, kind);
        for (int sum = 0; sum <= MOST_SUM; sum++) {
            long weight = law.weightAt(sum);
            if (weight > 0) {
                paper.space();
                paper.number(sum);
                paper.sign(':');
                paper.fraction(weight, law.bottom());
            }
        }
    }

    private void writeSpread(int set, int kind) {
        law.fill(set, kind);
        long bottom = law.bottom();
        paper.fraction(law.spreadTop(), bottom * bottom);
    }

    private void writePrice(int set, int rule) {
        paper.fraction(prices.topOf(set, rule), prices.bottomOf(rule));
    }

    private void writeSharing(int set, int rule) {
        prices.fill(set, rule);
        sharing.find(set, rule, prices);
        if (sharing.isFound()) {
            sharing.writeBorne(paper);
        } else {
            sharing.writeProof(paper);
        }
    }

    private void writeRuin(int money, int income, int years) {
        ruin.fill(income, years);
        paper.fraction(ruin.topFrom(money), ruin.bottomOf(years));
    }

    private void writePremium(int table) {
        lives.value(table);
        paper.fraction(lives.promisedTop(), lives.paidTop());
    }

    private boolean isSharingInNoWay() {
        if (house.persons < 2) {
            return true;
        }
        int first = house.everyone() & 7;
        prices.fill(first, BY_SPREAD);
        sharing.find(first, BY_SPREAD, prices);
        return sharing.isInNoWay();
    }

    private int numberOfHouse(int what) {
        switch (what) {
            case 0: return house.persons;
            case 1: return house.layers;
            case 2: return house.claims;
            case 3: return house.money;
            case 4: return house.income;
            case 5: return house.interest;
            case 6: return house.harm[SIZE];
            case 7: return house.harm[DROP];
            case 8: return pastCount;
            default: return knocks;
        }
    }

    // ---- the digest, part by part

    private static long mix(long d, long v) {
        return d * 31 + v;
    }

    private long mixSums(long before) {
        long d = before;
        int all = house.everyone();
        paper.clear();
        writeLaw(all, LOSS);
        d = paper.mixSigns(d);
        paper.clear();
        writeLaw(all, NET);
        d = paper.mixSigns(d);
        paper.clear();
        writeSpread(all, POOLED);
        return mix(d, paper.size());
    }

    private long mixPrices(long before) {
        long d = before;
        int all = house.everyone();
        for (int rule = 0; rule < RULES; rule++) {
            paper.clear();
            writePrice(all, rule);
            d = mix(d, paper.size());
        }
        prices.fill(all, BY_SPREAD);
        for (int person = 0; person < house.persons; person++) {
            d = mix(d, sizeOf(prices.shareTop(all, person), prices.shareBottom(all, BY_SPREAD)));
        }
        if (house.persons == 2 || house.persons == 3) {
            paper.clear();
            writeSharing(all, BY_SPREAD);
            d = paper.mixSigns(d);
        }
        paper.clear();
        writeRuin(9, house.income, 2);
        return mix(d, paper.size());
    }

    private long mixLives(long before) {
        long d = before;
        for (int table = 0; table < TABLES; table++) {
            paper.clear();
            writePremium(table);
            d = mix(d, paper.size());
            paper.clear();
            lives.writePutBy(table, 1, false, paper);
            d = mix(d, paper.size());
            paper.clear();
            lives.writePutBy(table, 1, true, paper);
            d = mix(d, paper.size());
        }
        return d;
    }

    private long mixSteps(long before) {
        long d = before;
        steps.fillLongRun();
        for (int step = 0; step < STEPS; step++) {
            d = mix(d, sizeOf(steps.longTop(step), steps.longBottom()));
        }
        d = mix(d, sizeOf(steps.meanRateTop(), steps.longBottom()));
        steps.fillCosts(3);
        return mix(d, sizeOf(steps.hurdleTop(2), steps.costBottom()));
    }

    private long mixClaims(long before) {
        paper.clear();
        claims.writeQueue(LAST_DAY, paper);
        long d = paper.mixSigns(before);
        for (int i = 0; i < CLAIM_YEARS; i++) {
            for (int j = 0; j < CLAIM_YEARS; j++) {
                d = mix(d, claims.coinsTold(i, j));
            }
        }
        for (int i = 0; i < CLAIM_YEARS; i++) {
            paper.clear();
            claims.writeToCome(i, CLAIM_YEARS - 1, paper);
            d = mix(d, paper.size());
        }
        return d;
    }

    private long mixPools(long before) {
        long d = before;
        pools.solve();
        for (int pool = 0; pool < POOLS; pool++) {
            d = mix(d, sizeOf(pools.holdsTop(pool), pools.holdsBottom()));
        }
        paper.clear();
        pools.writeOwes(paper);
        return paper.mixSigns(d);
    }

    private int sizeOf(long top, long bottom) {
        paper.clear();
        paper.fraction(top, bottom);
        return paper.size();
    }

    // ---- numbers

    /** The greatest of two numbers from 0 on; never 0, as it is divided by. */
    private static long commonDivisor(long one, long other) {
        long a = one;
        long b = other;
        for (int i = 0; i < 1000 && b != 0; i++) {
            long rest = a % b;
            a = b;
            b = rest;
        }
        return a > 0 ? a : 1;
    }

    private static long power(long number, int times) {
        long product = 1;
        for (int i = 0; i < times; i++) {
            product *= number;
        }
        return product;
    }

    /** Of four rows of four, by the pairs of columns of the upper two and of the lower two. */
    private static long determinant(long[] m) {
        if (m.length < 16) {
            return 0;
        }
        return pairOf(m, 0, 0, 1) * pairOf(m, 8, 2, 3)
                - pairOf(m, 0, 0, 2) * pairOf(m, 8, 1, 3)
                + pairOf(m, 0, 0, 3) * pairOf(m, 8, 1, 2)
                + pairOf(m, 0, 1, 2) * pairOf(m, 8, 0, 3)
                - pairOf(m, 0, 1, 3) * pairOf(m, 8, 0, 2)
                + pairOf(m, 0, 2, 3) * pairOf(m, 8, 0, 1);
    }

    private static long pairOf(long[] m, int row, int left, int right) {
        int next = row + 4;
        if (row < 0 || left < 0 || right < 0 || next + Math.max(left, right) >= m.length) {
            return 0;
        }
        return m[row + left] * m[next + right] - m[row + right] * m[next + left];
    }

    /** All that is told: copied as a whole, so that it can be told as it was. */
    private static final class House {
        final int[] chanceTops = {1, 0, 0, 1, 0, 0, 1, 0, 0};
        final int[] chanceBottoms = {1, 1, 1};
        int persons;
        final int[] people = new int[MOST_PERSONS * PERSON_CELLS];
        int layers;
        final int[] layerCells = new int[MOST_LAYERS * LAYER_CELLS];
        final int[] load = {0, 1};
        final int[] tail = {1, 1};
        int money;
        int income;
        final int[] tables = new int[TABLES * LIFE_YEARS * TABLE_CELLS];
        final int[] policies = {1, 0, 0, 0, 1, 0, 0, 0};
        int interest;
        final int[] rates = {100, 100, 100, 100, 100};
        final int[] harm = {0, 1, 0, 1};
        int claims;
        final int[] claimCells = new int[MOST_CLAIMS * CLAIM_CELLS];
        final int[] poolBears = new int[POOLS];
        final int[] tenths = new int[POOLS * POOLS];

        void copyFrom(House other) {
            copyCells(other.chanceTops, chanceTops);
            copyCells(other.chanceBottoms, chanceBottoms);
            persons = other.persons;
            copyCells(other.people, people);
            layers = other.layers;
            copyCells(other.layerCells, layerCells);
            copyCells(other.load, load);
            copyCells(other.tail, tail);
            money = other.money;
            income = other.income;
            copyCells(other.tables, tables);
            copyCells(other.policies, policies);
            interest = other.interest;
            copyCells(other.rates, rates);
            copyCells(other.harm, harm);
            claims = other.claims;
            copyCells(other.claimCells, claimCells);
            copyCells(other.poolBears, poolBears);
            copyCells(other.tenths, tenths);
        }

        private static void copyCells(int[] from, int[] to) {
            System.arraycopy(from, 0, to, 0, Math.min(from.length, to.length));
        }

        int everyone() {
            return (1 << persons) - 1;
        }

        int lossIn(int person, int a, int b, int c) {
            int group = people[PERSON_CELLS * person];
            int state = group == 0 ? a : group == 1 ? b : c;
            return people[PERSON_CELLS * person + FIRST_LOSS + state];
        }

        boolean liesOverLayer(int from, int width) {
            for (int cell = 0; cell < LAYER_CELLS * layers; cell += LAYER_CELLS) {
                int otherFrom = layerCells[cell];
                if (from < otherFrom + layerCells[cell + 1] && otherFrom < from + width) {
                    return true;
                }
            }
            return false;
        }

        int soldOf(int pooled) {
            int sold = 0;
            for (int cell = 0; cell < LAYER_CELLS * layers; cell += LAYER_CELLS) {
                int above = pooled - layerCells[cell];
                int width = layerCells[cell + 1];
                sold += above <= 0 ? 0 : above < width ? above : width;
            }
            return sold;
        }

        int stepAbove(int step) {
            return Math.min(step + 1, STEPS - 1);
        }

        int stepBelow(int step) {
            return Math.max(step - harm[DROP], 0);
        }

        int tableCell(int table, int year) {
            return (LIFE_YEARS * table + year) * TABLE_CELLS;
        }

        int termOf(int table) {
            return policies[POLICY_CELLS * table];
        }

        int handedOn(int pool) {
            int together = 0;
            for (int other = 0; other < POOLS; other++) {
                together += tenths[POOLS * pool + other];
            }
            return together;
        }
    }

    /** The one text that a call writes; kept, so that a digest makes no texts at all. */
    private static final class Paper {
        private final StringBuilder signs = new StringBuilder();

        void clear() {
            signs.setLength(0);
        }

        String text() {
            return signs.toString();
        }

        int size() {
            return signs.length();
        }

        long mixSigns(long before) {
            long d = before;
            for (int i = 0; i < signs.length(); i++) {
                d = mix(d, signs.charAt(i));
            }
            return d;
        }

        void sign(char c) {
            signs.append(c);
        }

        /** Ahead of each but the first. */
        void space() {
            if (signs.length() > 0) {
                signs.append(' ');
            }
        }

        void number(long number) {
            long left = number;
            if (left < 0) {
                signs.append('-');
                left = -left;
            }
            long unit = 1;
            for (int i = 0; i < 18 && left / unit >= 10; i++) {
                unit *= 10;
            }
            digits(left, unit);
        }

        /** As many as the unit has, with noughts ahead. */
        void digits(long number, long unit) {
            long left = unit;
            for (int i = 0; i < 19 && left > 0; i++) {
                signs.append((char) ('0' + number / left % 10));
                left /= 10;
            }
        }

        void fraction(long top, long bottom) {
            if (bottom == 0) {
                signs.append('-');
                return;
            }
            long divisor = commonDivisor(top < 0 ? -top : top, bottom);
            number(top / divisor);
            if (bottom != divisor) {
                signs.append('/');
                number(bottom / divisor);
            }
        }

        void set(int set) {
            boolean isFirst = true;
            for (int i = 0; i < MOST_PERSONS; i++) {
                if ((set >> i & 1) == 1) {
                    if (!isFirst) {
                        signs.append(',');
                    }
                    signs.append(i);
                    isFirst = false;
                }
            }
        }
    }

    /** The law of a sum: of each sum its chance, as a weight over one bottom. */
    private static final class Law {
        private final House house;
        private final int[] parts = new int[GROUPS * STATES];
        private final int[] sums = new int[CASES];
        private final int[] split = new int[CASES];
        private final long[] weights = new long[MOST_SUM + 1];

        Law(House house) {
            this.house = house;
        }

        long bottom() {
            return (long) house.chanceBottoms[0] * house.chanceBottoms[1] * house.chanceBottoms[2];
        }

        long weightOf(int a, int b, int c) {
            return (long) house.chanceTops[a]
                    * house.chanceTops[STATES + b]
                    * house.chanceTops[2 * STATES + c];
        }

        long weightOfCase(int number) {
            return weightOf(number / 9, number / 3 % 3, number % 3);
        }

        int possibleCases() {
            int count = 0;
            for (int number = 0; number < CASES; number++) {
                if (weightOfCase(number) > 0) {
                    count++;
                }
            }
            return count;
        }

        /** The sums in all cases: what each state of each group brings, then the layers. */
        void gather(int set, int kind) {
            Arrays.fill(parts, 0);
            for (int person = 0; person < house.persons; person++) {
                if ((set >> person & 1) == 1) {
                    addPerson(person, kind);
                }
            }
            for (int number = 0; number < CASES; number++) {
                int together = parts[number / 9]
                        + parts[STATES + number / 3 % 3]
                        + parts[2 * STATES + number % 3];
                if (kind >= SOLD) {
                    int sold = house.soldOf(together);
                    together = kind == SOLD ? sold : together - sold;
                }
                sums[number] = together;
            }
        }

        private void addPerson(int person, int kind) {
            int first = PERSON_CELLS * person;
            int bound = house.people[first + BOUND];
            int part = STATES * house.people[first];
            for (int state = 0; state < STATES; state++) {
                int loss = house.people[first + FIRST_LOSS + state];
                int own = loss < bound ? loss : bound;
                parts[part + state] += kind == LOSS ? loss : kind == OWN ? own : loss - own;
            }
        }

        int sumIn(int a, int b, int c) {
            return sums[9 * a + 3 * b + c];
        }

        int sumInCase(int number) {
            return number >= 0 && number < CASES ? sums[number] : 0;
        }

        void fill(int set, int kind) {
            gather(set, kind);
            Arrays.fill(weights, 0);
            for (int number = 0; number < CASES; number++) {
                int sum = sums[number];
                if (sum >= 0 && sum <= MOST_SUM) {
                    weights[sum] += weightOfCase(number);
                }
            }
        }

        long weightAt(int sum) {
            return sum >= 0 && sum <= MOST_SUM ? weights[sum] : 0;
        }

        long weightUpTo(int most) {
            long together = 0;
            for (int sum = 0; sum <= MOST_SUM && sum <= most; sum++) {
                together += weights[sum];
            }
            return together;
        }

        long meanTop() {
            long top = 0;
            for (int sum = 0; sum <= MOST_SUM; sum++) {
                top += sum * weights[sum];
            }
            return top;
        }

        /** Over the square of the bottom: the mean of the squares less the square of the mean. */
        long spreadTop() {
            long squares = 0;
            for (int sum = 0; sum <= MOST_SUM; sum++) {
                squares += sum * sum * weights[sum];
            }
            long mean = meanTop();
            return bottom() * squares - mean * mean;
        }

        int greatest() {
            for (int sum = MOST_SUM; sum > 0; sum--) {
                if (weights[sum] > 0) {
                    return sum;
                }
            }
            return 0;
        }

        int leastReaching(int top, int bottom) {
            long wanted = top * bottom();
            long reached = 0;
            for (int sum = 0; sum <= MOST_SUM; sum++) {
                reached += weights[sum] * bottom;
                if (reached >= wanted) {
                    return sum;
                }
            }
            return MOST_SUM;
        }

        /** Over the bottom times that top: what the worst bring, divided by their chance. */
        long worstTop(int top, int bottom) {
            long wanted = top * bottom();
            long brought = 0;
            for (int sum = MOST_SUM; sum >= 0; sum--) {
                long taken = Math.min(wanted, weights[sum] * bottom);
                brought += taken * sum;
                wanted -= taken;
            }
            return brought;
        }

        boolean isOneTogether() {
            long together = 0;
            for (int number = 0; number < CASES; number++) {
                together += weightOfCase(number);
            }
            return together == bottom();
        }

        boolean isSplitInEachCase() {
            Arrays.fill(split, 0);
            for (int kind = OWN; kind < KINDS; kind++) {
                gather(house.everyone(), kind);
                for (int number = 0; number < CASES; number++) {
                    split[number] += kind == POOLED ? 0 : sums[number];
                }
            }
            gather(house.everyone(), LOSS);
            for (int number = 0; number < CASES; number++) {
                if (sums[number] != split[number]) {
                    return false;
                }
            }
            return true;
        }

        boolean isMeanOfParts() {
            return isMeanOfParts(LOSS) && isMeanOfParts(POOLED);
        }

        private boolean isMeanOfParts(int kind) {
            long parted = 0;
            for (int person = 0; person < house.persons; person++) {
                fill(1 << person, kind);
                parted += meanTop();
            }
            fill(house.everyone(), kind);
            return meanTop() == parted;
        }
    }

    /** Prices of sets, those of one rule over one bottom, and what each adds to them. */
    private static final class Prices {
        private static final long[] ORDERS = {1, 1, 2, 6, 24, 120};

        private final House house;
        private final Law law;
        private final long[] tops = new long[1 << MOST_PERSONS];

        Prices(House house, Law law) {
            this.house = house;
            this.law = law;
        }

        long bottomOf(int rule) {
            long sums = law.bottom();
            switch (rule) {
                case 0: return sums * house.load[1];
                case 1: return sums * house.tail[0];
                case 2: return sums * sums * house.load[1];
                default: return 1;
            }
        }

        long topOf(int set, int rule) {
            law.fill(set, POOLED);
            switch (rule) {
                case 0: return law.meanTop() * (house.load[1] + house.load[0]);
                case 1: return law.worstTop(house.tail[0], house.tail[1]);
                case 2: return law.meanTop() * law.bottom() * house.load[1]
                        + law.spreadTop() * house.load[0];
                default: return law.greatest();
            }
        }

        /** The prices of all sets within that one. */
        void fill(int set, int rule) {
            for (int part = 0; part < tops.length; part++) {
                tops[part] = (part & ~set) == 0 ? topOf(part, rule) : 0;
            }
        }

        long filledTop(int set) {
            return set >= 0 && set < tops.length ? tops[set] : 0;
        }

        /** By those who came ahead: how many orders have just these ahead, times what it adds. */
        long shareTop(int set, int person) {
            int own = 1 << person;
            int size = Integer.bitCount(set);
            long top = 0;
            for (int ahead = 0; ahead < tops.length; ahead++) {
                int count = Integer.bitCount(ahead);
                if ((ahead & ~set) == 0 && (ahead & own) == 0 && count < size) {
                    long added = filledTop(ahead | own) - tops[ahead];
                    top += ordersOf(count) * ordersOf(size - count - 1) * added;
                }
            }
            return top;
        }

        long shareBottom(int set, int rule) {
            return ordersOf(Integer.bitCount(set)) * bottomOf(rule);
        }

        private static long ordersOf(int count) {
            return count >= 0 && count < ORDERS.length ? ORDERS[count] : 0;
        }

        boolean areSharedOut() {
            int all = house.everyone();
            for (int rule = 0; rule < RULES; rule++) {
                fill(all, rule);
                long together = 0;
                for (int person = 0; person < house.persons; person++) {
                    together += shareTop(all, person);
                }
                if (together != ordersOf(house.persons) * filledTop(all)) {
                    return false;
                }
            }
            return true;
        }
    }

    /**
     * A sharing of two or three that is in no group's way, or the proof that there is none. Of two,
     * a third one is thought that costs nothing: then what is told of three holds for them as well.
     */
    private static final class Sharing {
        private static final int NONE = -1;
        private static final int FAMILIES = 5;
        private static final int HALVED = 4;
        // Sets of the places 0 to 2, three a family, 0 for none.
        private static final int[] FAMILY_SETS = {1, 2, 4, 1, 6, 0, 2, 5, 0, 4, 3, 0, 3, 5, 6};

        private final int[] members = new int[3];
        // Of each set of places its price.
        private final long[] tops = new long[8];
        private final long[] borne = new long[3];
        private long bottom;
        private int proof;

        /** By prices that are filled for that set and rule. */
        void find(int set, int rule, Prices prices) {
            bottom = prices.bottomOf(rule);
            placeMembers(set);
            for (int places = 0; places < tops.length; places++) {
                tops[places] = prices.filledTop(setAt(places));
            }
            proof = firstFamily();
            borne[0] = tops[7] - Math.min(tops[6], tops[2] + tops[4]);
            borne[1] = tops[7] - Math.min(tops[5], borne[0] + tops[4]);
            borne[2] = tops[7] - borne[0] - borne[1];
        }

        private void placeMembers(int set) {
            Arrays.fill(members, NONE);
            int place = 0;
            for (int person = 0; person < MOST_PERSONS && place < members.length; person++) {
                if ((set >> person & 1) == 1) {
                    members[place] = person;
                    place++;
                }
            }
        }

        private int setAt(int places) {
            int set = 0;
            for (int place = 0; place < members.length; place++) {
                if ((places >> place & 1) == 1 && members[place] != NONE) {
                    set |= 1 << members[place];
                }
            }
            return set;
        }

        private int firstFamily() {
            for (int family = 0; family < FAMILIES; family++) {
                if (isLess(family)) {
                    return family;
                }
            }
            return NONE;
        }

        private boolean isLess(int family) {
            long together = 0;
            for (int i = 0; i < 3; i++) {
                int places = familySet(family, i);
                together += places >= 0 && places < tops.length ? tops[places] : 0;
            }
            return together < (family == HALVED ? 2 : 1) * tops[7];
        }

        private static int familySet(int family, int i) {
            int cell = 3 * family + i;
            return cell >= 0 && cell < FAMILY_SETS.length ? FAMILY_SETS[cell] : 0;
        }

        boolean isFound() {
            return proof == NONE;
        }

        void writeBorne(Paper paper) {
            for (int place = 0; place < members.length; place++) {
                if (members[place] != NONE) {
                    paper.space();
                    paper.number(members[place]);
                    paper.sign('=');
                    paper.fraction(borne[place], bottom);
                }
            }
        }

        void writeProof(Paper paper) {
            paper.sign('!');
            for (int i = 0; i < 3; i++) {
                int set = setAt(familySet(proof, i));
                if (set != 0) {
                    paper.space();
                    paper.set(set);
                }
            }
        }

        boolean isInNoWay() {
            return isFound() ? isBorneInNoWay() : isLess(proof);
        }

        private boolean isBorneInNoWay() {
            for (int places = 0; places < tops.length; places++) {
                long together = 0;
                for (int place = 0; place < borne.length; place++) {
                    together += (places >> place & 1) == 1 ? borne[place] : 0;
                }
                if (together > tops[places]) {
                    return false;
                }
            }
            return borne[0] + borne[1] + borne[2] == tops[7];
        }
    }

    /** The chance of ruin from each money to begin with, over a power of the law's bottom. */
    private static final class Ruin {
        private static final int MOST_YEARS = 3;

        private final House house;
        private final Law law;
        // With more than all years can take, there is no ruin.
        private final long[] tops = new long[MOST_YEARS * MOST_SUM + 1];
        private final long[] later = new long[MOST_YEARS * MOST_SUM + 1];
        private final int[] comingSums = new int[CASES];
        private final long[] comingWeights = new long[CASES];
        private int comingCount;

        Ruin(House house, Law law) {
            this.house = house;
            this.law = law;
        }

        void fill(int income, int years) {
            law.fill(house.everyone(), NET);
            listSums();
            Arrays.fill(tops, 0);
            for (int year = 1; year <= years && year <= MOST_YEARS; year++) {
                System.arraycopy(tops, 0, later, 0, tops.length);
                long ruined = bottomOf(year - 1);
                for (int money = 0; money < MOST_SUM * year; money++) {
                    tops[money] = topAfter(money + income, ruined);
                }
            }
        }

        /** Those that come alone: years go through them again and again. */
        private void listSums() {
            comingCount = 0;
            for (int net = 0; net <= MOST_SUM; net++) {
                long weight = law.weightAt(net);
                if (weight > 0 && comingCount < CASES) {
                    comingSums[comingCount] = net;
                    comingWeights[comingCount] = weight;
                    comingCount++;
                }
            }
        }

        private long topAfter(int money, long ruined) {
            long top = 0;
            for (int i = 0; i < comingCount; i++) {
                int left = money - comingSums[i];
                if (left < 0) {
                    top += comingWeights[i] * ruined;
                } else if (left < later.length) {
                    top += comingWeights[i] * later[left];
                }
            }
            return top;
        }

        long bottomOf(int years) {
            return power(law.bottom(), years);
        }

        long topFrom(int money) {
            return money >= 0 && money < tops.length ? tops[money] : 0;
        }

        int leastMoney(int years, int top, int bottom) {
            long most = top * bottomOf(years);
            int money = 0;
            while (money < tops.length - 1 && tops[money] * bottom > most) {
                money++;
            }
            return money;
        }

        boolean isThatOfPairs() {
            law.gather(house.everyone(), NET);
            long together = 0;
            for (int first = 0; first < CASES; first++) {
                int money = house.income - law.sumInCase(first);
                long weight = law.weightOfCase(first);
                for (int second = 0; second < CASES && weight > 0; second++) {
                    if (money < 0 || money + house.income - law.sumInCase(second) < 0) {
                        together += weight * law.weightOfCase(second);
                    }
                }
            }
            fill(house.income, 2);
            return topFrom(0) == together;
        }
    }

    /**
     * Lives by their tables. A hundredth of a chance times a coin of a year later is worth
     * 1 / (100 + i) of one: so worths stand over powers of 100 + i, chances over powers of 100.
     */
    private static final class Lives {
        private final House house;
        private final long[] wellTops = new long[LIFE_YEARS + 1];
        private final long[] illTops = new long[LIFE_YEARS + 1];
        private final long[] paidTops = new long[LIFE_YEARS + 1];
        private final long[] states = new long[3];
        private final Wide wide = new Wide();
        private final Wide wideBottom = new Wide();

        Lives(House house) {
            this.house = house;
        }

        private long coin() {
            return 100 + house.interest;
        }

        /** From the last year back; those of a year over 100 + i to the years that are left. */
        void value(int table) {
            int policy = POLICY_CELLS * table;
            int term = house.termOf(table);
            long death = house.policies[policy + 1];
            long ill = house.policies[policy + 2];
            wellTops[term] = house.policies[policy + 3];
            illTops[term] = wellTops[term];
            paidTops[term] = 0;
            long unit = 1;
            for (int year = term - 1; year >= 0; year--) {
                int cell = house.tableCell(table, year);
                int fall = house.tables[cell];
                int die = house.tables[cell + 1];
                int illDie = house.tables[cell + 2];
                int stay = 100 - fall - die;
                long asIll = ill * unit + illTops[year + 1];
                illTops[year] = illDie * death * unit + (100 - illDie) * asIll;
                wellTops[year] = die * death * unit + fall * asIll + stay * wellTops[year + 1];
                paidTops[year] = coin() * unit + stay * paidTops[year + 1];
                unit *= coin();
            }
        }

        long promisedTop() {
            return wellTops[0];
        }

        long paidTop() {
            return paidTops[0];
        }

        void writePutBy(int table, int year, boolean isIll, Paper paper) {
            value(table);
            long bottom = power(coin(), house.termOf(table) - year);
            if (isIll) {
                paper.fraction(illTops[year], bottom);
            } else {
                weighPutBy(year);
                writeWide(paidTop(), bottom, paper);
            }
        }

        /** The premium is itself a fraction: what is put by stands over its bottom too. */
        private void weighPutBy(int year) {
            wide.clear();
            wide.addProduct(wellTops[year], paidTop(), 1);
            wide.addProduct(promisedTop(), paidTops[year], -1);
            wide.settle();
        }

        void passYears(int table, int years) {
            states[0] = 1;
            states[1] = 0;
            states[2] = 0;
            for (int year = 0; year < years && year < LIFE_YEARS; year++) {
                int cell = house.tableCell(table, year);
                long well = states[0];
                long ill = states[1];
                int fall = house.tables[cell];
                int die = house.tables[cell + 1];
                int illDie = house.tables[cell + 2];
                states[0] = well * (100 - fall - die);
                states[1] = well * fall + ill * (100 - illDie);
                states[2] = states[2] * 100 + well * die + ill * illDie;
            }
        }

        long stateTop(int what) {
            return what >= 0 && what < states.length ? states[what] : 0;
        }

        /** Onto the wide number, over the square of 100 to the years. */
        private void addLiving(int years, boolean isBoth) {
            long whole = power(100, years);
            passYears(0, years);
            long firstDead = states[2];
            passYears(1, years);
            long secondDead = states[2];
            if (isBoth) {
                wide.addProduct(whole - firstDead, whole - secondDead, 1);
            } else {
                wide.addProduct(whole, whole, 1);
                wide.addProduct(firstDead, secondDead, -1);
            }
            wide.settle();
        }

        void writeChanceOfTwo(int years, boolean isBoth, Paper paper) {
            wide.clear();
            addLiving(years, isBoth);
            writeWide(power(100, years), power(100, years), paper);
        }

        /** A coin of year k is worth 100 / (100 + i) to the k: one 100 to the k falls away. */
        void writeWorthOfTwo(int years, boolean isBoth, Paper paper) {
            wide.clear();
            for (int year = 1; year <= years; year++) {
                wide.multiply(100 * coin());
                addLiving(year, isBoth);
            }
            writeWide(power(100, years), power(coin(), years), paper);
        }

        /** The wide number over the product of two, in lowest terms. */
        private void writeWide(long one, long other, Paper paper) {
            long fromOne = commonDivisor(one, wide.rest(one));
            wide.divide(fromOne);
            long fromOther = commonDivisor(other, wide.rest(other));
            wide.divide(fromOther);
            wideBottom.clear();
            wideBottom.addProduct(one / fromOne, other / fromOther, 1);
            wideBottom.settle();
            wide.write(paper);
            if (!wideBottom.isOne()) {
                paper.sign('/');
                wideBottom.write(paper);
            }
        }

        boolean isNothingPutByFirst() {
            for (int table = 0; table < TABLES; table++) {
                value(table);
                weighPutBy(0);
                if (!wide.isNought()) {
                    return false;
                }
            }
            return true;
        }

        boolean isEachYearWhole() {
            for (int table = 0; table < TABLES; table++) {
                for (int years = 0; years <= LIFE_YEARS; years++) {
                    passYears(table, years);
                    if (states[0] + states[1] + states[2] != power(100, years)) {
                        return false;
                    }
                }
            }
            return true;
        }
    }

    /**
     * A whole number too large for a long: products of two longs, and their sums. Its places are of
     * 10000, so that it can be divided by a long of up to 14 digits place by place.
     */
    private static final class Wide {
        private static final long PLACE = 10000;
        private static final int PLACES = 12;
        private static final int LONG_PLACES = 5;

        private final long[] places = new long[PLACES];
        private boolean isBelow;

        void clear() {
            Arrays.fill(places, 0);
            isBelow = false;
        }

        /** To be settled before it is used; only on a number that is not below 0. */
        void addProduct(long one, long other, int sign) {
            long left = one;
            for (int i = 0; i < LONG_PLACES; i++) {
                long right = other;
                for (int j = 0; j < LONG_PLACES; j++) {
                    places[i + j] += sign * (left % PLACE) * (right % PLACE);
                    right /= PLACE;
                }
                left /= PLACE;
            }
        }

        void multiply(long factor) {
            for (int i = 0; i < PLACES; i++) {
                places[i] *= factor;
            }
            settle();
        }

        void settle() {
            if (carry() >= 0) {
                return;
            }
            isBelow = true;
            for (int i = 0; i < PLACES; i++) {
                places[i] = -places[i];
            }
            carry();
        }

        private long carry() {
            long carried = 0;
            for (int i = 0; i < PLACES; i++) {
                long together = places[i] + carried;
                places[i] = Math.floorMod(together, PLACE);
                carried = Math.floorDiv(together, PLACE);
            }
            return carried;
        }

        long rest(long divisor) {
            long rest = 0;
            for (int i = PLACES - 1; i >= 0 && divisor > 0; i--) {
                rest = (rest * PLACE + places[i]) % divisor;
            }
            return rest;
        }

        void divide(long divisor) {
            long rest = 0;
            for (int i = PLACES - 1; i >= 0 && divisor > 0; i--) {
                long together = rest * PLACE + places[i];
                places[i] = together / divisor;
                rest = together % divisor;
            }
        }

        private int highest() {
            int i = PLACES - 1;
            while (i > 0 && places[i] == 0) {
                i--;
            }
            return i;
        }

        boolean isNought() {
            return highest() == 0 && places[0] == 0;
        }

        boolean isOne() {
            return highest() == 0 && places[0] == 1;
        }

        void write(Paper paper) {
            if (isBelow) {
                paper.sign('-');
            }
            int first = highest();
            paper.number(places[first]);
            for (int i = first - 1; i >= 0; i--) {
                paper.digits(places[i], PLACE / 10);
            }
        }
    }

    /** Bonus steps: where one is in the long run, and what years cost. */
    private static final class Steps {
        private final House house;
        private final long[] longTops = new long[STEPS];
        private final long[] minor = new long[16];
        private final long[] costTops = new long[STEPS];
        private final long[] laterTops = new long[STEPS];
        private long costBottom = 1;

        Steps(House house) {
            this.house = house;
        }

        private long harmed() {
            return house.harm[HARM_TOP];
        }

        private long unharmed() {
            return house.harm[HARM_BOTTOM] - house.harm[HARM_TOP];
        }

        private long flow(int from, int to) {
            return (house.stepAbove(from) == to ? unharmed() : 0)
                    + (house.stepBelow(from) == to ? harmed() : 0);
        }

        /** The chances of a chain that stays as it is are as its minors without one step each. */
        void fillLongRun() {
            for (int step = 0; step < STEPS; step++) {
                for (int cell = 0; cell < 16; cell++) {
                    int from = cell / 4 < step ? cell / 4 : cell / 4 + 1;
                    int to = cell % 4 < step ? cell % 4 : cell % 4 + 1;
                    minor[cell] = (from == to ? house.harm[HARM_BOTTOM] : 0) - flow(from, to);
                }
                longTops[step] = determinant(minor);
            }
        }

        long longTop(int step) {
            return step >= 0 && step < STEPS ? longTops[step] : 0;
        }

        long longBottom() {
            long together = 0;
            for (int step = 0; step < STEPS; step++) {
                together += longTops[step];
            }
            return together;
        }

        long meanRateTop() {
            long top = 0;
            for (int step = 0; step < STEPS; step++) {
                top += house.rates[step] * longTops[step];
            }
            return top;
        }

        void fillCosts(int years) {
            Arrays.fill(costTops, 0);
            costBottom = 1;
            for (int year = 0; year < years; year++) {
                System.arraycopy(costTops, 0, laterTops, 0, STEPS);
                for (int step = 0; step < STEPS; step++) {
                    long kept = laterTops[house.stepAbove(step)];
                    long told = laterTops[house.stepBelow(step)];
                    long lesser = Math.min(told, house.harm[SIZE] * costBottom + kept);
                    costTops[step] = house.rates[step] * costBottom * house.harm[HARM_BOTTOM]
                            + unharmed() * kept + harmed() * lesser;
                }
                costBottom *= house.harm[HARM_BOTTOM];
            }
        }

        long costTop(int step) {
            return step >= 0 && step < STEPS ? costTops[step] : 0;
        }

        long costBottom() {
            return costBottom;
        }

        long hurdleTop(int step) {
            return costTop(house.stepBelow(step)) - costTop(house.stepAbove(step));
        }

        boolean isLongRunKept() {
            fillLongRun();
            if (longBottom() <= 0) {
                return false;
            }
            for (int to = 0; to < STEPS; to++) {
                long coming = 0;
                for (int from = 0; from < STEPS; from++) {
                    coming += longTops[from] * flow(from, to);
                }
                if (coming != longTops[to] * house.harm[HARM_BOTTOM]) {
                    return false;
                }
            }
            return true;
        }
    }

    /** Claims that are told late, and what is still to come of them. */
    private static final class Claims {
        private final House house;

        Claims(House house) {
            this.house = house;
        }

        void writeQueue(int lastDay, Paper paper) {
            for (int day = 0; day <= lastDay; day++) {
                for (int claim = 0; claim < house.claims; claim++) {
                    if (house.claimCells[CLAIM_CELLS * claim + 2] == day) {
                        paper.space();
                        paper.number(claim);
                        paper.sign('@');
                        paper.number(day);
                    }
                }
            }
        }

        int coinsTold(int i, int j) {
            int coins = 0;
            for (int claim = 0; claim < house.claims; claim++) {
                int first = CLAIM_CELLS * claim;
                int harmYear = house.claimCells[first + 1] / DAYS_A_YEAR;
                int toldYear = house.claimCells[first + 2] / DAYS_A_YEAR;
                if (harmYear == i && toldYear <= i + j) {
                    coins += house.claimCells[first + 3];
                }
            }
            return coins;
        }

        /** Of all years whose run to j + 1 is known as of t: their runs to j + later. */
        int knownTogether(int j, int t, int later) {
            int coins = 0;
            for (int i = 0; i + j + 1 <= t; i++) {
                coins += coinsTold(i, j + later);
            }
            return coins;
        }

        void writeToCome(int i, int t, Paper paper) {
            int known = coinsTold(i, t - i);
            long top = known;
            long bottom = 1;
            for (int j = t - i; j < t; j++) {
                top *= knownTogether(j, t, 1);
                bottom *= knownTogether(j, t, 0);
            }
            paper.fraction(top - known * bottom, bottom);
        }
    }

    /** Pools that hand on parts of all that they have, to one another and in rings. */
    private static final class Pools {
        private final House house;
        private final long[] grid = new long[POOLS * POOLS];
        private final long[] allTops = new long[POOLS];
        private final long[] missing = new long[POOLS];
        private long bottom;

        Pools(House house) {
            this.house = house;
        }

        /** By determinants: of the equations, and with what is borne in the column of a pool. */
        void solve() {
            fillGrid();
            bottom = determinant(grid);
            for (int pool = 0; pool < POOLS; pool++) {
                fillGrid();
                for (int row = 0; row < POOLS; row++) {
                    grid[POOLS * row + pool] = WHOLE * house.poolBears[row];
                }
                allTops[pool] = determinant(grid);
            }
        }

        /** Ten times what one has, less the tenths that the others hand on to it. */
        private void fillGrid() {
            for (int row = 0; row < POOLS; row++) {
                for (int from = 0; from < POOLS; from++) {
                    grid[POOLS * row + from] =
                            (row == from ? WHOLE : 0) - house.tenths[POOLS * from + row];
                }
            }
        }

        long bottom() {
            return bottom;
        }

        long allTop(int pool) {
            return pool >= 0 && pool < POOLS ? allTops[pool] : 0;
        }

        long holdsTop(int pool) {
            return allTop(pool) * (WHOLE - house.handedOn(pool));
        }

        long holdsBottom() {
            return WHOLE * bottom;
        }

        void writeOwes(Paper paper) {
            if (bottom == 0) {
                paper.sign('-');
                return;
            }
            for (int pool = 0; pool < POOLS; pool++) {
                missing[pool] = holdsTop(pool) - house.poolBears[pool] * holdsBottom();
            }
            for (int i = 0; i < POOLS * POOLS; i++) {
                int taker = firstMissing(1);
                int giver = firstMissing(-1);
                if (taker == POOLS || giver == POOLS) {
                    return;
                }
                long taken = Math.min(missing[taker], -missing[giver]);
                missing[taker] -= taken;
                missing[giver] += taken;
                writeStep(taker, giver, taken, paper);
            }
        }

        private int firstMissing(int sign) {
            int pool = 0;
            while (pool < POOLS && missing[pool] * sign <= 0) {
                pool++;
            }
            return pool;
        }

        private void writeStep(int taker, int giver, long taken, Paper paper) {
            paper.space();
            paper.number(taker);
            paper.sign('<');
            paper.number(giver);
            paper.sign('=');
            paper.fraction(taken, holdsBottom());
        }

        boolean isAllHeld() {
            solve();
            long held = 0;
            long borne = 0;
            for (int pool = 0; pool < POOLS; pool++) {
                held += holdsTop(pool);
                borne += house.poolBears[pool];
            }
            return bottom == 0 || held == borne * holdsBottom();
        }
    }
}
