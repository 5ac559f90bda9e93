import java.util.function.LongSupplier;

/** All promises: long runs of calls by fixed seeds, answered by the program and by Model. */
public final class RandomRunsTest {
    private static final int RUNS = 600;
    /** What an object answers after so many calls is free; a digest counts as one. */
    private static final int CALLS = 512;
    private static final int KINDS_OF_CALLS = 25;

    private final Iemotohall x = new Iemotohall();
    private final Model m = new Model();
    private final int[] often = new int[KINDS_OF_CALLS];
    private long seed;

    private RandomRunsTest(int run) {
        seed = run * 7919L + 1;
        for (int i = 0; i < KINDS_OF_CALLS; i++) {
            often[i] = 1 + below(4);
        }
        // Steps need many gifts and days; falls and deaths end a run's growth.
        often[1] += 4 + below(30);
        often[2] = run % 2;
        often[3] = run % 3 == 0 ? 0 : 1;
        often[7] += 2 + below(12);
        if (run % 5 == 4) {
            for (int kind : new int[] {3, 8, 9, 10, 11}) {
                often[kind] += 5;
            }
        }
    }

    public static void main(String[] args) {
        for (int run = 0; run < RUNS; run++) {
            if (!new RandomRunsTest(run).isAsDue(run)) {
                break;
            }
        }
        Check.end("RandomRunsTest");
    }

    private boolean isAsDue(int run) {
        // Most runs begin with people: chains make deep falls and long ways for fees.
        for (int p = 0; p < run % 13; p++) {
            int teacher = below(2) == 0 ? p - 1 : below(Math.max(p, 1));
            int kin = below(p + 1) - 1;
            String told = same("person", () -> x.person(teacher, kin), () -> m.person(teacher, kin));
            if (told != null) {
                Check.tell("run " + run + ", begin: " + told);
                return false;
            }
        }
        int left = CALLS - run % 13;
        int gap = 1 + run % 4 * 3;
        for (int call = 0; left >= 2; call++) {
            String told = oneCall();
            left--;
            if (call % gap == 0 || left == 1) {
                told = told == null && x.digest() != m.digest() ? "digest" : told;
                left--;
            }
            if (told != null) {
                Check.tell("run " + run + ", call " + call + ": " + told);
                return false;
            }
        }
        return true;
    }

    /** What was wrong, or null. */
    private String oneCall() {
        int p = person();
        int q = person();
        int s = below(14) == 0 ? below(30) - 10 : 1 + below(9);
        int what = below(16) - 1;
        boolean is = below(2) == 0;
        int secret = number(m.scrolls.size());
        int tool = number(m.tools.size());
        int house = number(m.houses.size());
        int guests = guests();
        switch (kindOfCall()) {
            case 0: {
                int kin = below(2) == 0 ? -1 : q;
                return same("person", () -> x.person(p, kin), () -> m.person(p, kin));
            }
            case 1: return same("give", () -> x.give(p), () -> m.give(p));
            case 2: return same("revoke", () -> x.revoke(p, s), () -> m.revoke(p, s));
            case 3: return same("die", () -> x.die(p), () -> m.die(p));
            case 4: return same("adopt", () -> x.adopt(p, q, is), () -> m.adopt(p, q, is));
            case 5: return same("heir", () -> x.heir(house, p), () -> m.heir(house, p));
            case 6: return same("part", () -> x.part(p), () -> m.part(p));
            case 7: {
                int days = below(20) == 0 ? below(120) - 10 : 1 + below(60);
                return same("pass", () -> x.pass(days), () -> m.pass(days));
            }
            case 8: {
                int step = is ? s : below(3);
                int key = below(2) == 0 ? -1 : secret;
                return same("secret", () -> x.secret(p, step, key), () -> m.secret(p, step, key));
            }
            case 9: return same("read", () -> one(x.read(p, secret)), () -> one(m.read(p, secret)));
            case 10: return same("copy", () -> x.copy(p, secret), () -> m.copy(p, secret));
            case 11: return same("rebuild", () -> x.rebuild(p, secret), () -> m.rebuild(p, secret));
            case 12: {
                int kind = below(20) == 0 ? below(8) - 2 : below(4);
                int season = below(20) == 0 ? below(9) - 3 : below(2) == 0 ? -1 : below(4);
                int theme = below(20) == 0 ? below(20) - 4 : below(4);
                int rank = below(20) == 0 ? below(20) - 4 : 1 + below(9);
                return same("utensil", () -> x.utensil(p, kind, season, theme, rank),
                    () -> m.utensil(p, kind, season, theme, rank));
            }
            case 13: return same("lend", () -> x.lend(tool, p), () -> m.lend(tool, p));
            case 14: return same("mend", () -> x.mend(tool, is), () -> m.mend(tool, is));
            case 15: return same("quarrel", () -> one(x.quarrel(p, q, is)), () -> one(m.quarrel(p, q, is)));
            case 16: return same("hold", () -> x.hold(p, guests), () -> m.hold(p, guests));
            case 17: return same("ofPerson", () -> x.ofPerson(p, what), () -> m.ofPerson(p, what));
            case 18: return same("giver", () -> x.giver(p, s, is), () -> m.giver(p, s, is));
            case 19: return same("ofHouse", () -> x.ofHouse(house, what), () -> m.ofHouse(house, what));
            case 20: return same("meanStep", () -> Double.doubleToLongBits(x.meanStep(house)),
                () -> Double.doubleToLongBits(m.meanStep(house)));
            case 21: {
                int which = below(12) == 0 ? what : below(5) - 1;
                return same("plan", () -> x.plan(p, guests, which), () -> m.plan(p, guests, which));
            }
            case 22: return same("wouldFall", () -> x.wouldFall(p, s), () -> m.wouldFall(p, s));
            case 23: return same("wouldLose", () -> x.wouldLose(p), () -> m.wouldLose(p));
            default: return oneQuestion(secret, tool, what);
        }
    }

    private String oneQuestion(int secret, int tool, int what) {
        switch (below(3)) {
            case 0: return same("ofSecret", () -> x.ofSecret(secret, what), () -> m.ofSecret(secret, what));
            case 1: return same("ofUtensil", () -> x.ofUtensil(tool, what), () -> m.ofUtensil(tool, what));
            default: return same("many", () -> x.many(what), () -> m.many(what));
        }
    }

    private static String same(String call, LongSupplier got, LongSupplier due) {
        String is = answer(got);
        String want = answer(due);
        return is.equals(want) ? null : call + " answered " + is + ", due is " + want;
    }

    private static String answer(LongSupplier call) {
        try {
            return Long.toString(call.getAsLong());
        } catch (RuntimeException e) {
            return e.getClass().getName();
        }
    }

    private static long one(boolean is) {
        return is ? 1 : 0;
    }

    private int kindOfCall() {
        int all = 0;
        for (int many : often) {
            all += many;
        }
        int left = below(all);
        int kind = 0;
        while (left >= often[kind]) {
            left -= often[kind];
            kind++;
        }
        return kind;
    }

    private int person() {
        return number(m.humans.size());
    }

    private int number(int many) {
        if (below(15) == 0) {
            return below(16) - 2;
        }
        return many == 0 ? -1 : below(many);
    }

    private int guests() {
        int set = below(30) == 0 ? 1 << below(32) : 0;
        for (int i = below(5); i >= 0 && !m.humans.isEmpty(); i--) {
            set |= 1 << below(m.humans.size());
        }
        return set;
    }

    /** A row of numbers that is the same each time. */
    private int below(int bound) {
        seed = seed * 6364136223846793005L + 1442695040888963407L;
        return (int) ((seed >>> 33) % bound);
    }
}
