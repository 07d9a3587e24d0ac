/** The checksum as its promise tells it, by what the other methods of the face answer. */
final class Digest {
    private final Poolward x;
    private final int persons;
    private final int all;
    private long d = 6907;

    private Digest(Poolward x) {
        this.x = x;
        persons = x.house(0);
        all = (1 << persons) - 1;
    }

    static long by(Poolward x) {
        return ofAllButSound(x) * 31 + (x.isSound() ? 1 : 0);
    }

    static long ofAllButSound(Poolward x) {
        Digest digest = new Digest(x);
        digest.people();
        digest.sums();
        digest.lives();
        digest.steps();
        digest.claims();
        digest.pools();
        return digest.d;
    }

    private void mix(long v) {
        d = d * 31 + v;
    }

    private void mixSigns(String text) {
        for (char sign : text.toCharArray()) {
            mix(sign);
        }
    }

    private void people() {
        for (int what = 0; what <= 9; what++) {
            mix(x.house(what));
        }
        for (int person = 0; person < persons; person++) {
            for (int what = 0; what <= 6; what++) {
                mix(x.ofPerson(person, what));
            }
        }
    }

    private void sums() {
        mixSigns(x.law(all, 0));
        mixSigns(x.law(all, 4));
        mix(x.spread(all, 2).length());
        for (int rule = 0; rule <= 3; rule++) {
            mix(x.price(all, rule).length());
        }
        for (int person = 0; person < persons; person++) {
            mix(x.share(all, person, 2).length());
        }
        if (persons == 2 || persons == 3) {
            mixSigns(x.sharing(all, 2));
        }
        mix(x.ruin(9, x.house(4), 2).length());
    }

    private void lives() {
        for (int table = 0; table <= 1; table++) {
            mix(x.premium(table).length());
            mix(x.putBy(table, 1, false).length());
            mix(x.putBy(table, 1, true).length());
        }
    }

    private void steps() {
        for (int step = 0; step <= 4; step++) {
            mix(x.longRun(step).length());
        }
        mix(x.meanRate().length());
        mix(x.hurdle(2, 3).length());
    }

    private void claims() {
        mixSigns(x.queue(99));
        for (int cell = 0; cell < 16; cell++) {
            mix(x.run(cell / 4, cell % 4));
        }
        for (int i = 0; i <= 3; i++) {
            mix(x.toCome(i, 3).length());
        }
    }

    private void pools() {
        for (int pool = 0; pool <= 3; pool++) {
            mix(x.pool(pool, 2).length());
        }
        mixSigns(x.owes());
    }
}
