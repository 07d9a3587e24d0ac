import java.util.ArrayList;
import java.util.Arrays;
import java.util.List;
import java.util.Map;
import java.util.TreeMap;

/**
 * What the document says, written down once more in the most literal way: fractions of any size,
 * orders one by one, years case by case. Slow, and of another make than the class on purpose.
 */
public final class Model {
    /** All that can be undone. */
    private static final class Told {
        Fraction[][] chances = new Fraction[3][3];
        List<int[]> people = new ArrayList<>();
        List<int[]> layers = new ArrayList<>();
        Fraction load = Fraction.ZERO;
        Fraction tail = Fraction.ONE;
        int money;
        int income;
        int[][][] tables = new int[2][6][3];
        int[][] policies = {{1, 0, 0, 0}, {1, 0, 0, 0}};
        int interest;
        int[] rates = {100, 100, 100, 100, 100};
        Fraction harm = Fraction.ZERO;
        int size;
        int drop = 1;
        List<int[]> claims = new ArrayList<>();
        int[] bears = new int[4];
        int[][] tenths = new int[4][4];

        Told() {
            for (Fraction[] group : chances) {
                Arrays.fill(group, Fraction.ZERO);
                group[0] = Fraction.ONE;
            }
        }

        Told copy() {
            Told t = new Told();
            for (int i = 0; i < 3; i++) {
                t.chances[i] = chances[i].clone();
            }
            t.people = copyOf(people);
            t.layers = copyOf(layers);
            t.load = load;
            t.tail = tail;
            t.money = money;
            t.income = income;
            for (int i = 0; i < 2; i++) {
                t.policies[i] = policies[i].clone();
                for (int j = 0; j < 6; j++) {
                    t.tables[i][j] = tables[i][j].clone();
                }
            }
            t.interest = interest;
            t.rates = rates.clone();
            t.harm = harm;
            t.size = size;
            t.drop = drop;
            t.claims = copyOf(claims);
            t.bears = bears.clone();
            for (int i = 0; i < 4; i++) {
                t.tenths[i] = tenths[i].clone();
            }
            return t;
        }

        private static List<int[]> copyOf(List<int[]> rows) {
            List<int[]> copy = new ArrayList<>();
            for (int[] row : rows) {
                copy.add(row.clone());
            }
            return copy;
        }
    }

    private Told now = new Told();
    private final List<Told> past = new ArrayList<>();
    private int knocks;

    // ---- refusing

    private static void index(boolean isThere) {
        if (!isThere) {
            throw new IndexOutOfBoundsException();
        }
    }

    private static void argument(boolean isLet) {
        if (!isLet) {
            throw new IllegalArgumentException();
        }
    }

    private static void state(boolean isLet) {
        if (!isLet) {
            throw new IllegalStateException();
        }
    }

    private static boolean in(int number, int least, int most) {
        return least <= number && number <= most;
    }

    private static void states(int a, int b, int c) {
        index(in(a, 0, 2) && in(b, 0, 2) && in(c, 0, 2));
    }

    private void persons(int set) {
        index(set >= 0);
        for (int k = 0; k < 32; k++) {
            index((set >>> k & 1) == 0 || k < now.people.size());
        }
    }

    private void done() {
        past.add(now.copy());
        if (past.size() > 8) {
            past.remove(0);
        }
    }

    // ---- changes

    public int chances(int group, int a, int b, int c, int bottom) {
        index(in(group, 0, 2));
        argument(in(a, 0, 60) && in(b, 0, 60) && in(c, 0, 60) && in(bottom, 0, 60));
        if (bottom == 0) {
            return -8;
        }
        if (a + b + c != bottom) {
            return -9;
        }
        done();
        now.chances[group] = new Fraction[] {
            Fraction.of(a, bottom), Fraction.of(b, bottom), Fraction.of(c, bottom)};
        int count = 0;
        for (int[] s : cases()) {
            count += chanceOf(s).isZero() ? 0 : 1;
        }
        return count;
    }

    public int person(int group, int a, int b, int c) {
        index(in(group, 0, 2));
        argument(in(a, 0, 12) && in(b, 0, 12) && in(c, 0, 12));
        state(now.people.size() < 5);
        done();
        now.people.add(new int[] {group, a, b, c, 0, 2, 0});
        return now.people.size() - 1;
    }

    public int loss(int person, int state, int coins) {
        index(in(person, 0, now.people.size() - 1) && in(state, 0, 2));
        argument(in(coins, 0, 12));
        done();
        int before = now.people.get(person)[1 + state];
        now.people.get(person)[1 + state] = coins;
        return before;
    }

    public int bound(int person, int coins) {
        index(in(person, 0, now.people.size() - 1));
        argument(in(coins, 0, 12));
        done();
        int before = now.people.get(person)[4];
        now.people.get(person)[4] = coins;
        return before;
    }

    public int layer(int from, int width) {
        argument(in(from, 0, 59) && in(width, 1, 60));
        state(now.layers.size() < 3);
        for (int[] layer : now.layers) {
            for (int coin = from + 1; coin <= from + width; coin++) {
                if (coin > layer[0] && coin <= layer[0] + layer[1]) {
                    return -9;
                }
            }
        }
        done();
        now.layers.add(new int[] {from, width});
        return now.layers.size() - 1;
    }

    public int unlayer(int layer) {
        index(in(layer, 0, now.layers.size() - 1));
        done();
        now.layers.remove(layer);
        return now.layers.size();
    }

    public int load(int top, int bottom) {
        argument(in(top, 0, 99) && in(bottom, 0, 99));
        if (bottom == 0) {
            return -8;
        }
        Fraction told = Fraction.of(top, bottom);
        if (told.compareTo(Fraction.of(2)) > 0) {
            return -9;
        }
        done();
        int other = told.compareTo(now.load) != 0 ? 1 : 0;
        now.load = told;
        return other;
    }

    public int tail(int top, int bottom) {
        argument(in(top, 0, 99) && in(bottom, 0, 99));
        if (bottom == 0) {
            return -8;
        }
        Fraction told = Fraction.of(top, bottom);
        if (told.sign() <= 0 || told.compareTo(Fraction.ONE) > 0) {
            return -9;
        }
        done();
        int other = told.compareTo(now.tail) != 0 ? 1 : 0;
        now.tail = told;
        return other;
    }

    public int till(int money, int income) {
        argument(in(money, 0, 60) && in(income, 0, 12));
        done();
        int before = now.money;
        now.money = money;
        now.income = income;
        return before;
    }

    public int year(int a, int b, int c) {
        states(a, b, c);
        done();
        int[] s = {a, b, c};
        now.money += now.income - sumOf(all(), 4, s);
        for (int[] p : now.people) {
            int loss = p[1 + s[p[0]]];
            p[6] += Math.min(loss, p[4]);
            p[5] = loss > 0 ? below(p[5]) : above(p[5]);
        }
        return now.money;
    }

    public int table(int table, int year, int fall, int die, int illDie) {
        index(in(table, 0, 1) && in(year, 0, 5));
        argument(in(fall, 0, 100) && in(die, 0, 100) && in(illDie, 0, 100));
        if (fall + die > 100) {
            return -9;
        }
        done();
        int[] before = now.tables[table][year];
        int[] told = {fall, die, illDie};
        int others = 0;
        for (int i = 0; i < 3; i++) {
            others += before[i] != told[i] ? 1 : 0;
        }
        now.tables[table][year] = told;
        return others;
    }

    public int policy(int table, int term, int death, int ill, int end) {
        index(in(table, 0, 1));
        argument(in(term, 1, 6) && in(death, 0, 99) && in(ill, 0, 99) && in(end, 0, 99));
        done();
        int before = now.policies[table][0];
        now.policies[table] = new int[] {term, death, ill, end};
        return before;
    }

    public int interest(int hundredths) {
        argument(in(hundredths, 0, 50));
        done();
        int before = now.interest;
        now.interest = hundredths;
        return before;
    }

    public int rate(int step, int rate) {
        index(in(step, 0, 4));
        argument(in(rate, 0, 300));
        done();
        int before = now.rates[step];
        now.rates[step] = rate;
        return before;
    }

    public int harm(int top, int bottom, int size, int drop) {
        argument(in(top, 0, 99) && in(bottom, 0, 99) && in(size, 0, 500) && in(drop, 1, 4));
        if (bottom == 0) {
            return -8;
        }
        if (top > bottom) {
            return -9;
        }
        done();
        int before = now.drop;
        now.harm = Fraction.of(top, bottom);
        now.size = size;
        now.drop = drop;
        return before;
    }

    public int claim(int person, int day, int lag, int coins) {
        index(in(person, 0, now.people.size() - 1));
        argument(in(day, 0, 99) && in(lag, 0, 99) && in(coins, 1, 99));
        argument(day + lag <= 99);
        state(now.claims.size() < 10);
        done();
        now.claims.add(new int[] {person, day, day + lag, coins});
        return now.claims.size() - 1;
    }

    public int bears(int pool, int coins) {
        index(in(pool, 0, 3));
        argument(in(coins, 0, 99));
        done();
        int before = now.bears[pool];
        now.bears[pool] = coins;
        return before;
    }

    public int contract(int pool, int other, int tenths) {
        index(in(pool, 0, 3) && in(other, 0, 3));
        argument(pool != other && in(tenths, 0, 10));
        int[] would = now.tenths[pool].clone();
        would[other] = tenths;
        if (Arrays.stream(would).sum() > 10) {
            return -9;
        }
        done();
        int before = now.tenths[pool][other];
        now.tenths[pool][other] = tenths;
        return before;
    }

    public int undo() {
        state(!past.isEmpty());
        now = past.remove(past.size() - 1);
        return past.size();
    }

    public int knock() {
        return ++knocks;
    }

    // ---- cases, laws

    private static List<int[]> cases() {
        List<int[]> cases = new ArrayList<>();
        for (int a = 0; a < 3; a++) {
            for (int b = 0; b < 3; b++) {
                for (int c = 0; c < 3; c++) {
                    cases.add(new int[] {a, b, c});
                }
            }
        }
        return cases;
    }

    private Fraction chanceOf(int[] s) {
        return now.chances[0][s[0]].times(now.chances[1][s[1]]).times(now.chances[2][s[2]]);
    }

    private int all() {
        return (1 << now.people.size()) - 1;
    }

    private int sumOf(int set, int kind, int[] s) {
        int losses = 0;
        int owns = 0;
        for (int k = 0; k < now.people.size(); k++) {
            if ((set >> k & 1) == 1) {
                int[] p = now.people.get(k);
                int loss = p[1 + s[p[0]]];
                losses += loss;
                owns += Math.min(loss, p[4]);
            }
        }
        int pooled = losses - owns;
        int sold = 0;
        for (int coin = 1; coin <= pooled; coin++) {
            for (int[] layer : now.layers) {
                sold += coin > layer[0] && coin <= layer[0] + layer[1] ? 1 : 0;
            }
        }
        return new int[] {losses, owns, pooled, sold, pooled - sold}[kind];
    }

    private TreeMap<Integer, Fraction> lawOf(int set, int kind) {
        TreeMap<Integer, Fraction> law = new TreeMap<>();
        for (int[] s : cases()) {
            if (!chanceOf(s).isZero()) {
                law.merge(sumOf(set, kind, s), chanceOf(s), Fraction::plus);
            }
        }
        return law;
    }

    private static Fraction meanOf(Map<Integer, Fraction> law) {
        Fraction mean = Fraction.ZERO;
        for (Map.Entry<Integer, Fraction> e : law.entrySet()) {
            mean = mean.plus(e.getValue().times(Fraction.of(e.getKey())));
        }
        return mean;
    }

    private static Fraction spreadOf(Map<Integer, Fraction> law) {
        Fraction mean = meanOf(law);
        Fraction spread = Fraction.ZERO;
        for (Map.Entry<Integer, Fraction> e : law.entrySet()) {
            Fraction far = Fraction.of(e.getKey()).minus(mean);
            spread = spread.plus(e.getValue().times(far).times(far));
        }
        return spread;
    }

    private static Fraction worstOf(TreeMap<Integer, Fraction> law, Fraction u) {
        Fraction left = u;
        Fraction brought = Fraction.ZERO;
        for (int sum : law.descendingKeySet()) {
            Fraction taken = left.min(law.get(sum));
            brought = brought.plus(taken.times(Fraction.of(sum)));
            left = left.minus(taken);
        }
        return brought.over(u);
    }

    public String chance(int a, int b, int c) {
        states(a, b, c);
        return chanceOf(new int[] {a, b, c}).toString();
    }

    public int hit(int a, int b, int c) {
        states(a, b, c);
        int set = 0;
        for (int k = 0; k < now.people.size(); k++) {
            set += sumOf(1 << k, 0, new int[] {a, b, c}) > 0 ? 1 << k : 0;
        }
        return set;
    }

    public int sum(int set, int kind, int a, int b, int c) {
        persons(set);
        states(a, b, c);
        argument(in(kind, 0, 4));
        return sumOf(set, kind, new int[] {a, b, c});
    }

    public String law(int set, int kind) {
        persons(set);
        argument(in(kind, 0, 4));
        List<String> parts = new ArrayList<>();
        lawOf(set, kind).forEach((sum, chance) -> parts.add(sum + ":" + chance));
        return String.join(" ", parts);
    }

    public String mean(int set, int kind) {
        persons(set);
        argument(in(kind, 0, 4));
        return meanOf(lawOf(set, kind)).toString();
    }

    public String spread(int set, int kind) {
        persons(set);
        argument(in(kind, 0, 4));
        return spreadOf(lawOf(set, kind)).toString();
    }

    public String atMost(int set, int kind, int sum) {
        persons(set);
        argument(in(kind, 0, 4));
        return upTo(lawOf(set, kind), sum).toString();
    }

    private static Fraction upTo(TreeMap<Integer, Fraction> law, int sum) {
        Fraction chance = Fraction.ZERO;
        for (Fraction part : law.headMap(sum, true).values()) {
            chance = chance.plus(part);
        }
        return chance;
    }

    public int mark(int set, int kind, int top, int bottom) {
        persons(set);
        argument(in(kind, 0, 4) && in(top, 0, 99) && in(bottom, 0, 99));
        if (bottom == 0) {
            return -8;
        }
        if (top == 0 || top > bottom) {
            return -9;
        }
        TreeMap<Integer, Fraction> law = lawOf(set, kind);
        for (int sum : law.keySet()) {
            if (upTo(law, sum).compareTo(Fraction.of(top, bottom)) >= 0) {
                return sum;
            }
        }
        throw new AssertionError();
    }

    public String worst(int set, int kind, int top, int bottom) {
        persons(set);
        argument(in(kind, 0, 4) && in(top, 0, 99) && in(bottom, 0, 99));
        if (bottom == 0 || top == 0 || top > bottom) {
            return "-";
        }
        return worstOf(lawOf(set, kind), Fraction.of(top, bottom)).toString();
    }

    // ---- prices, shares

    private Fraction priceOf(int set, int rule) {
        TreeMap<Integer, Fraction> law = lawOf(set, 2);
        switch (rule) {
            case 0: return meanOf(law).times(Fraction.ONE.plus(now.load));
            case 1: return worstOf(law, now.tail);
            case 2: return meanOf(law).plus(now.load.times(spreadOf(law)));
            default: return Fraction.of(law.lastKey());
        }
    }

    /** Order by order: of each what the person adds as it comes. */
    private Fraction shareOf(int set, int person, int rule) {
        Fraction[] prices = new Fraction[32];
        for (int part = 0; part < 32; part++) {
            prices[part] = (part & ~set) == 0 ? priceOf(part, rule) : null;
        }
        Fraction[] sum = {Fraction.ZERO, Fraction.ZERO};
        addOrders(set, 0, person, prices, sum);
        return sum[0].over(sum[1]);
    }

    private static void addOrders(int set, int came, int person, Fraction[] prices,
            Fraction[] sum) {
        if (came == set) {
            sum[1] = sum[1].plus(Fraction.ONE);
            return;
        }
        for (int k = 0; k < 5; k++) {
            int one = 1 << k;
            if ((set & one) == 0 || (came & one) != 0) {
                continue;
            }
            if (k == person) {
                Fraction orders = Fraction.ONE;
                for (int left = Integer.bitCount(set & ~came & ~one); left > 1; left--) {
                    orders = orders.times(Fraction.of(left));
                }
                Fraction added = prices[came | one].minus(prices[came]);
                sum[0] = sum[0].plus(added.times(orders));
                sum[1] = sum[1].plus(orders);
            } else {
                addOrders(set, came | one, person, prices, sum);
            }
        }
    }

    public String price(int set, int rule) {
        persons(set);
        argument(in(rule, 0, 3));
        return priceOf(set, rule).toString();
    }

    public String share(int set, int person, int rule) {
        persons(set);
        index(in(person, 0, now.people.size() - 1));
        argument(in(rule, 0, 3) && (set >> person & 1) == 1);
        return shareOf(set, person, rule).toString();
    }

    public String sharing(int set, int rule) {
        persons(set);
        int size = Integer.bitCount(set);
        argument(in(rule, 0, 3) && (size == 2 || size == 3));
        int[] members = new int[size];
        int place = 0;
        for (int k = 0; k < 5; k++) {
            if ((set >> k & 1) == 1) {
                members[place++] = k;
            }
        }
        Fraction[] borne = size == 2
                ? sharingOfTwo(priceOf(set, rule), priceOf(1 << members[0], rule),
                        priceOf(1 << members[1], rule))
                : sharingOfThree(members, rule);
        if (borne == null) {
            return proofOf(members, set, rule);
        }
        List<String> parts = new ArrayList<>();
        for (int i = 0; i < size; i++) {
            parts.add(members[i] + "=" + borne[i]);
        }
        return String.join(" ", parts);
    }

    private static Fraction[] sharingOfTwo(Fraction both, Fraction first, Fraction second) {
        Fraction least = both.minus(second);
        return least.compareTo(first) > 0 ? null : new Fraction[] {least, second};
    }

    /** Every corner of the region in which nobody is wronged; the first by order of the shares. */
    private Fraction[] sharingOfThree(int[] m, int rule) {
        Fraction all = priceOf(1 << m[0] | 1 << m[1] | 1 << m[2], rule);
        // Rows x * a + y * b <= c, with the third one's share all - x - y.
        int[][] sides = {{1, 0}, {0, 1}, {-1, -1}, {1, 1}, {0, -1}, {-1, 0}};
        Fraction[] limits = {
            priceOf(1 << m[0], rule),
            priceOf(1 << m[1], rule),
            priceOf(1 << m[2], rule).minus(all),
            priceOf(1 << m[0] | 1 << m[1], rule),
            priceOf(1 << m[0] | 1 << m[2], rule).minus(all),
            priceOf(1 << m[1] | 1 << m[2], rule).minus(all)};
        Fraction[] best = null;
        for (int i = 0; i < 6; i++) {
            for (int j = 0; j < i; j++) {
                int d = sides[i][0] * sides[j][1] - sides[i][1] * sides[j][0];
                if (d == 0) {
                    continue;
                }
                Fraction x = limits[i].times(Fraction.of(sides[j][1]))
                        .minus(limits[j].times(Fraction.of(sides[i][1]))).over(Fraction.of(d));
                Fraction y = limits[j].times(Fraction.of(sides[i][0]))
                        .minus(limits[i].times(Fraction.of(sides[j][0]))).over(Fraction.of(d));
                if (!isLet(x, y, sides, limits)) {
                    continue;
                }
                int order = best == null ? -1 : x.compareTo(best[0]);
                if (order < 0 || order == 0 && y.compareTo(best[1]) < 0) {
                    best = new Fraction[] {x, y, all.minus(x).minus(y)};
                }
            }
        }
        return best;
    }

    private static boolean isLet(Fraction x, Fraction y, int[][] sides, Fraction[] limits) {
        for (int i = 0; i < sides.length; i++) {
            Fraction side = x.times(Fraction.of(sides[i][0])).plus(y.times(Fraction.of(sides[i][1])));
            if (side.compareTo(limits[i]) > 0) {
                return false;
            }
        }
        return true;
    }

    private String proofOf(int[] m, int set, int rule) {
        int[] one = new int[m.length];
        for (int i = 0; i < m.length; i++) {
            one[i] = 1 << m[i];
        }
        int[][] families = m.length == 2 ? new int[][] {{one[0], one[1]}} : new int[][] {
            {one[0], one[1], one[2]},
            {one[0], one[1] | one[2]},
            {one[1], one[0] | one[2]},
            {one[2], one[0] | one[1]},
            {one[0] | one[1], one[0] | one[2], one[1] | one[2]}};
        for (int f = 0; f < families.length; f++) {
            Fraction together = Fraction.ZERO;
            for (int part : families[f]) {
                together = together.plus(priceOf(part, rule));
            }
            if (f == 4) {
                together = together.over(Fraction.of(2));
            }
            if (together.compareTo(priceOf(set, rule)) < 0) {
                StringBuilder text = new StringBuilder("!");
                for (int part : families[f]) {
                    text.append(" ").append(textOf(part));
                }
                return text.toString();
            }
        }
        throw new AssertionError("neither a sharing nor a proof");
    }

    private static String textOf(int set) {
        List<String> parts = new ArrayList<>();
        for (int k = 0; k < 5; k++) {
            if ((set >> k & 1) == 1) {
                parts.add("" + k);
            }
        }
        return String.join(",", parts);
    }

    public String gain(int person, int state, int coins, int rule) {
        index(in(person, 0, now.people.size() - 1) && in(state, 0, 2));
        argument(in(coins, 0, 12) && in(rule, 0, 3));
        Fraction truly = shareOf(all(), person, rule);
        Told kept = now;
        now = kept.copy();
        now.people.get(person)[1 + state] = coins;
        Fraction falsely = shareOf(all(), person, rule);
        now = kept;
        return truly.minus(falsely).toString();
    }

    // ---- ruin

    /** Forward, from the money to all that can be left without ruin. */
    private Fraction ruinOf(int money, int income, int years) {
        TreeMap<Integer, Fraction> left = new TreeMap<>();
        left.put(money, Fraction.ONE);
        TreeMap<Integer, Fraction> law = lawOf(all(), 4);
        Fraction ruined = Fraction.ZERO;
        for (int year = 0; year < years; year++) {
            TreeMap<Integer, Fraction> next = new TreeMap<>();
            for (Map.Entry<Integer, Fraction> had : left.entrySet()) {
                for (Map.Entry<Integer, Fraction> net : law.entrySet()) {
                    int then = had.getKey() + income - net.getKey();
                    Fraction chance = had.getValue().times(net.getValue());
                    if (then < 0) {
                        ruined = ruined.plus(chance);
                    } else {
                        next.merge(then, chance, Fraction::plus);
                    }
                }
            }
            left = next;
        }
        return ruined;
    }

    public String ruin(int money, int income, int years) {
        argument(in(money, 0, 60) && in(income, 0, 12) && in(years, 1, 3));
        return ruinOf(money, income, years).toString();
    }

    public int least(int income, int years, int top, int bottom) {
        argument(in(income, 0, 12) && in(years, 1, 3) && in(top, 0, 99) && in(bottom, 0, 99));
        if (bottom == 0) {
            return -8;
        }
        int money = 0;
        while (ruinOf(money, income, years).compareTo(Fraction.of(top, bottom)) > 0) {
            money++;
        }
        return money;
    }

    // ---- lives

    private static Fraction hundredths(int number) {
        return Fraction.of(number, 100);
    }

    /** Well, ill, dead at the end of a life year, from those at its beginning. */
    private Fraction[] after(int table, int year, Fraction[] s) {
        int[] row = now.tables[table][year];
        Fraction falls = s[0].times(hundredths(row[0]));
        Fraction dies = s[0].times(hundredths(row[1]));
        Fraction illDies = s[1].times(hundredths(row[2]));
        return new Fraction[] {
            s[0].minus(falls).minus(dies),
            s[1].plus(falls).minus(illDies),
            s[2].plus(dies).plus(illDies)};
    }

    private static Fraction[] begin(boolean isIll) {
        return new Fraction[] {
            isIll ? Fraction.ZERO : Fraction.ONE, isIll ? Fraction.ONE : Fraction.ZERO,
            Fraction.ZERO};
    }

    private Fraction worthOf(int years) {
        Fraction worth = Fraction.ONE;
        for (int i = 0; i < years; i++) {
            worth = worth.times(Fraction.of(100, 100 + now.interest));
        }
        return worth;
    }

    /** What is promised, then how many coins the premium of one is worth; from a year on. */
    private Fraction[] promisedAndPaid(int table, int from, boolean isIll) {
        int[] policy = now.policies[table];
        Fraction[] s = begin(isIll);
        Fraction promised = Fraction.ZERO;
        Fraction paid = Fraction.ZERO;
        for (int year = from; year < policy[0]; year++) {
            paid = paid.plus(s[0].times(worthOf(year - from)));
            Fraction[] then = after(table, year, s);
            Fraction worth = worthOf(year + 1 - from);
            Fraction died = then[2].minus(s[2]);
            promised = promised.plus(died.times(Fraction.of(policy[1])).times(worth));
            promised = promised.plus(then[1].times(Fraction.of(policy[2])).times(worth));
            s = then;
        }
        Fraction lives = s[0].plus(s[1]);
        promised = promised.plus(
                lives.times(Fraction.of(policy[3])).times(worthOf(policy[0] - from)));
        return new Fraction[] {promised, paid};
    }

    private Fraction premiumOf(int table) {
        Fraction[] worths = promisedAndPaid(table, 0, false);
        return worths[0].over(worths[1]);
    }

    public String premium(int table) {
        index(in(table, 0, 1));
        return premiumOf(table).toString();
    }

    public String putBy(int table, int year, boolean isIll) {
        index(in(table, 0, 1));
        index(in(year, 0, now.policies[table][0]));
        Fraction[] worths = promisedAndPaid(table, year, isIll);
        return worths[0].minus(worths[1].times(premiumOf(table))).toString();
    }

    private Fraction[] lifeOf(int table, int years) {
        Fraction[] s = begin(false);
        for (int year = 0; year < years; year++) {
            s = after(table, year, s);
        }
        return s;
    }

    public String life(int table, int years, int what) {
        index(in(table, 0, 1));
        argument(in(years, 0, 6) && in(what, 0, 2));
        return lifeOf(table, years)[what].toString();
    }

    private Fraction twoLive(int years, boolean isBoth) {
        Fraction one = Fraction.ONE.minus(lifeOf(0, years)[2]);
        Fraction other = Fraction.ONE.minus(lifeOf(1, years)[2]);
        Fraction both = one.times(other);
        return isBoth ? both : one.plus(other).minus(both);
    }

    public String two(int years, boolean isBoth, boolean isWorth) {
        argument(in(years, 0, 6));
        if (!isWorth) {
            return twoLive(years, isBoth).toString();
        }
        Fraction worth = Fraction.ZERO;
        for (int year = 1; year <= years; year++) {
            worth = worth.plus(twoLive(year, isBoth).times(worthOf(year)));
        }
        return worth.toString();
    }

    // ---- steps, harms

    private static int above(int step) {
        return step == 4 ? 4 : step + 1;
    }

    private int below(int step) {
        return step < now.drop ? 0 : step - now.drop;
    }

    /** The equations of the chain, one of them in favour of all chances being one together. */
    private Fraction[] longRunOf() {
        Fraction[][] rows = new Fraction[5][6];
        for (Fraction[] row : rows) {
            Arrays.fill(row, Fraction.ZERO);
        }
        for (int step = 0; step < 5; step++) {
            rows[step][step] = rows[step][step].minus(Fraction.ONE);
            int up = above(step);
            int down = below(step);
            rows[up][step] = rows[up][step].plus(Fraction.ONE.minus(now.harm));
            rows[down][step] = rows[down][step].plus(now.harm);
        }
        Arrays.fill(rows[2], Fraction.ONE);
        return solved(rows);
    }

    /** null if there is not just one solution. */
    private static Fraction[] solved(Fraction[][] rows) {
        int size = rows.length;
        for (int column = 0; column < size; column++) {
            int pivot = column;
            while (pivot < size && rows[pivot][column].isZero()) {
                pivot++;
            }
            if (pivot == size) {
                return null;
            }
            Fraction[] row = rows[pivot];
            rows[pivot] = rows[column];
            rows[column] = row;
            Fraction first = row[column];
            for (int i = 0; i <= size; i++) {
                row[i] = row[i].over(first);
            }
            for (int other = 0; other < size; other++) {
                Fraction times = rows[other][column];
                for (int i = 0; i <= size && other != column; i++) {
                    rows[other][i] = rows[other][i].minus(times.times(row[i]));
                }
            }
        }
        Fraction[] solution = new Fraction[size];
        for (int i = 0; i < size; i++) {
            solution[i] = rows[i][size];
        }
        return solution;
    }

    public String longRun(int step) {
        index(in(step, 0, 4));
        return longRunOf()[step].toString();
    }

    public String meanRate() {
        Fraction mean = Fraction.ZERO;
        for (int step = 0; step < 5; step++) {
            mean = mean.plus(longRunOf()[step].times(Fraction.of(now.rates[step])));
        }
        return mean.toString();
    }

    private Fraction costOf(int step, int years) {
        if (years == 0) {
            return Fraction.ZERO;
        }
        Fraction unharmed = costOf(above(step), years - 1);
        Fraction told = costOf(below(step), years - 1);
        Fraction lesser = told.min(unharmed.plus(Fraction.of(now.size)));
        return Fraction.of(now.rates[step])
                .plus(now.harm.times(lesser))
                .plus(Fraction.ONE.minus(now.harm).times(unharmed));
    }

    private Fraction hurdleOf(int step, int years) {
        return costOf(below(step), years).minus(costOf(above(step), years));
    }

    public String cost(int step, int years) {
        index(in(step, 0, 4));
        argument(in(years, 0, 6));
        return costOf(step, years).toString();
    }

    public String hurdle(int step, int years) {
        index(in(step, 0, 4));
        argument(in(years, 0, 6));
        return hurdleOf(step, years).toString();
    }

    public boolean pays(int step, int years) {
        index(in(step, 0, 4));
        argument(in(years, 0, 6));
        return Fraction.of(now.size).compareTo(hurdleOf(step, years)) < 0;
    }

    // ---- claims

    public String queue(int day) {
        argument(in(day, 0, 99));
        List<Integer> numbers = new ArrayList<>();
        for (int k = 0; k < now.claims.size(); k++) {
            if (now.claims.get(k)[2] <= day) {
                numbers.add(k);
            }
        }
        numbers.sort((x, y) -> now.claims.get(x)[2] - now.claims.get(y)[2]);
        List<String> parts = new ArrayList<>();
        for (int k : numbers) {
            parts.add(k + "@" + now.claims.get(k)[2]);
        }
        return String.join(" ", parts);
    }

    private int runOf(int i, int j) {
        int coins = 0;
        for (int[] claim : now.claims) {
            boolean isOfYear = claim[1] >= 25 * i && claim[1] < 25 * (i + 1);
            coins += isOfYear && claim[2] < 25 * (i + j + 1) ? claim[3] : 0;
        }
        return coins;
    }

    public int run(int i, int j) {
        argument(in(i, 0, 3) && in(j, 0, 3));
        return runOf(i, j);
    }

    private Fraction growthOf(int j, int t) {
        int later = 0;
        int sooner = 0;
        for (int i = 0; i <= 3; i++) {
            if (i + j + 1 <= t) {
                later += runOf(i, j + 1);
                sooner += runOf(i, j);
            }
        }
        return sooner == 0 ? null : Fraction.of(later, sooner);
    }

    public String growth(int j, int t) {
        argument(in(j, 0, 2) && in(t, 0, 3));
        return growthOf(j, t) == null ? "-" : growthOf(j, t).toString();
    }

    public String toCome(int i, int t) {
        argument(in(i, 0, 3) && in(t, 0, 3) && i <= t);
        Fraction known = Fraction.of(runOf(i, t - i));
        Fraction grown = known;
        for (int j = t - i; j <= t - 1; j++) {
            if (growthOf(j, t) == null) {
                return "-";
            }
            grown = grown.times(growthOf(j, t));
        }
        return grown.minus(known).toString();
    }

    // ---- pools

    public int tenths(int pool, int other) {
        index(in(pool, 0, 3) && in(other, 0, 3));
        return now.tenths[pool][other];
    }

    private Fraction[] allOf() {
        Fraction[][] rows = new Fraction[4][5];
        for (int pool = 0; pool < 4; pool++) {
            for (int other = 0; other < 4; other++) {
                rows[pool][other] = Fraction.of(pool == other ? 1 : 0)
                        .minus(Fraction.of(now.tenths[other][pool], 10));
            }
            rows[pool][4] = Fraction.of(now.bears[pool]);
        }
        return solved(rows);
    }

    private Fraction[] holdsOf() {
        Fraction[] holds = allOf();
        for (int pool = 0; pool < 4 && holds != null; pool++) {
            int handed = Arrays.stream(now.tenths[pool]).sum();
            holds[pool] = holds[pool].times(Fraction.of(10 - handed, 10));
        }
        return holds;
    }

    public String pool(int pool, int what) {
        index(in(pool, 0, 3));
        argument(in(what, 0, 2));
        if (what == 0) {
            return "" + now.bears[pool];
        }
        Fraction[] asked = what == 1 ? allOf() : holdsOf();
        return asked == null ? "-" : asked[pool].toString();
    }

    public String owes() {
        Fraction[] holds = holdsOf();
        if (holds == null) {
            return "-";
        }
        Fraction[] bears = new Fraction[4];
        for (int pool = 0; pool < 4; pool++) {
            bears[pool] = Fraction.of(now.bears[pool]);
        }
        List<String> parts = new ArrayList<>();
        while (true) {
            int taker = -1;
            int giver = -1;
            for (int pool = 3; pool >= 0; pool--) {
                taker = bears[pool].compareTo(holds[pool]) < 0 ? pool : taker;
                giver = bears[pool].compareTo(holds[pool]) > 0 ? pool : giver;
            }
            if (taker < 0) {
                return String.join(" ", parts);
            }
            Fraction taken = holds[taker].minus(bears[taker])
                    .min(bears[giver].minus(holds[giver]));
            bears[taker] = bears[taker].plus(taken);
            bears[giver] = bears[giver].minus(taken);
            parts.add(taker + "<" + giver + "=" + taken);
        }
    }

    // ---- the house

    public int ofPerson(int person, int what) {
        index(in(person, 0, now.people.size() - 1));
        argument(in(what, 0, 6));
        return now.people.get(person)[what];
    }

    public int house(int what) {
        argument(in(what, 0, 9));
        return new int[] {
            now.people.size(), now.layers.size(), now.claims.size(), now.money, now.income,
            now.interest, now.size, now.drop, past.size(), knocks}[what];
    }

    /** All that it asks for follows from the document's own words. */
    public boolean isSound() {
        return true;
    }

    private long d;

    private void mix(long v) {
        d = d * 31 + v;
    }

    private void mixSigns(String text) {
        for (char c : text.toCharArray()) {
            mix(c);
        }
    }

    public long digest() {
        d = 6907;
        for (int what = 0; what <= 9; what++) {
            mix(house(what));
        }
        int count = now.people.size();
        for (int person = 0; person < count; person++) {
            for (int what = 0; what <= 6; what++) {
                mix(ofPerson(person, what));
            }
        }
        mixSigns(law(all(), 0));
        mixSigns(law(all(), 4));
        mix(spread(all(), 2).length());
        for (int rule = 0; rule <= 3; rule++) {
            mix(price(all(), rule).length());
        }
        for (int person = 0; person < count; person++) {
            mix(share(all(), person, 2).length());
        }
        if (count == 2 || count == 3) {
            mixSigns(sharing(all(), 2));
        }
        mix(ruin(9, now.income, 2).length());
        for (int table = 0; table <= 1; table++) {
            mix(premium(table).length());
            mix(putBy(table, 1, false).length());
            mix(putBy(table, 1, true).length());
        }
        for (int step = 0; step <= 4; step++) {
            mix(longRun(step).length());
        }
        mix(meanRate().length());
        mix(hurdle(2, 3).length());
        mixSigns(queue(99));
        for (int i = 0; i <= 3; i++) {
            for (int j = 0; j <= 3; j++) {
                mix(run(i, j));
            }
        }
        for (int i = 0; i <= 3; i++) {
            mix(toCome(i, 3).length());
        }
        for (int pool = 0; pool <= 3; pool++) {
            mix(pool(pool, 2).length());
        }
        mixSigns(owes());
        mix(isSound() ? 1 : 0);
        return d;
    }
}
