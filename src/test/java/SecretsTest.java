/** Promises 10 to 13, 22 and 28: secret, read, copy, rebuild, ofSecret, wouldLose. */
public final class SecretsTest {
    public static void main(String[] args) {
        secret();
        secretRefused();
        read();
        readRefused();
        readStaysAndIsLost();
        copy();
        copyRefused();
        rebuild();
        rebuildRefused();
        ofSecret();
        ofSecretRefused();
        wouldLose();
        Check.end("SecretsTest");
    }

    private static void secret() {
        Iemotohall x = Halls.flat(2);
        Check.is("secret(0, 9, -1)", x.secret(0, 9, -1), 0);
        Check.is("secret(1, 0, 0)", x.secret(1, 0, 0), 1);
        int[] first = {9, -1, 0, 0, 1, 1, 0};
        int[] second = {0, 0, 0, 0, 1, 0, 1};
        for (int what = 0; what < first.length; what++) {
            Check.is("ofSecret(0, " + what + ")", x.ofSecret(0, what), first[what]);
            Check.is("ofSecret(1, " + what + ")", x.ofSecret(1, what), second[what]);
        }
        Check.is("what 0 read", x.ofPerson(0, 9), 1);
        Check.is("what 1 read", x.ofPerson(1, 9), 2);
        Check.is("what 1 understands", x.ofPerson(1, 10), 0);
        Check.is("secrets", x.many(4), 2);
        x.give(1);
        Check.is("secret(1, 1, 1), of just its step", x.secret(1, 1, 1), 2);
    }

    private static void secretRefused() {
        Iemotohall x = Halls.flat(3);
        x.secret(0, 0, -1);
        Check.index(x, "secret(3, 0, -1)", () -> x.secret(3, 0, -1));
        Check.index(x, "secret(-1, 10, -1)", () -> x.secret(-1, 10, -1));
        Check.index(x, "secret(0, 0, 1), its own number", () -> x.secret(0, 0, 1));
        Check.index(x, "secret(0, 10, -2)", () -> x.secret(0, 10, -2));
        Check.argument(x, "secret(0, 10, -1)", () -> x.secret(0, 10, -1));
        Check.argument(x, "secret(0, -1, 0)", () -> x.secret(0, -1, 0));
        Check.state(x, "secret(1, 1, -1), not held", () -> x.secret(1, 1, -1));
        x.die(1);
        Check.state(x, "secret(1, 0, -1), dead", () -> x.secret(1, 0, -1));
        for (int s = 1; s < 8; s++) {
            Check.is("secret " + s, x.secret(0, 0, s - 1), s);
        }
        Check.state(x, "the ninth", () -> x.secret(0, 0, -1));
        Check.argument(x, "the ninth of the step 10", () -> x.secret(0, 10, -1));
        Check.is("secrets", x.many(4), 8);
    }

    private static void read() {
        Iemotohall x = Halls.flat(2);
        x.secret(0, 0, -1);
        x.secret(0, 0, 0);
        x.secret(0, 1, 1);
        x.give(1);
        Check.is("read(1, 2) without its keys", x.read(1, 2), false);
        Check.is("read(1, 1) without its key", x.read(1, 1), false);
        Check.is("what 1 understands", x.ofPerson(1, 10), 0);
        Check.is("read(1, 0)", x.read(1, 0), true);
        Check.is("what 1 understands", x.ofPerson(1, 10), 7);
        Check.is("read(1, 2) again", x.read(1, 2), true);
        Check.is("what 1 read", x.ofPerson(1, 9), 7);
        Iemotohall gap = Halls.flat(2);
        gap.secret(0, 0, -1);
        gap.secret(0, 0, 0);
        gap.secret(0, 0, 1);
        gap.read(1, 0);
        Check.is("read(1, 2) with a key not read between", gap.read(1, 2), false);
        Check.is("what 1 understands", gap.ofPerson(1, 10), 1);
        Iemotohall deep = Halls.flat(2);
        for (int s = 0; s < 8; s++) {
            deep.secret(0, 0, s - 1);
        }
        for (int s = 7; s > 0; s--) {
            Check.is("read(1, " + s + ") without the first key", deep.read(1, s), false);
        }
        Check.is("read(1, 7) without the first key alone", deep.read(1, 7), false);
        Check.is("read(1, 0)", deep.read(1, 0), true);
        Check.is("read(1, 7) down all the keys", deep.read(1, 7), true);
    }

    private static void readRefused() {
        Iemotohall x = Halls.flat(3);
        x.secret(1, 0, -1);
        x.secret(0, 1, -1);
        Check.index(x, "read(3, 0)", () -> x.read(3, 0));
        Check.index(x, "read(-1, 0)", () -> x.read(-1, 0));
        Check.index(x, "read(0, 2)", () -> x.read(0, 2));
        Check.index(x, "read(0, -1)", () -> x.read(0, -1));
        Check.state(x, "read(1, 1), not held", () -> x.read(1, 1));
        x.die(1);
        Check.state(x, "read(0, 0), lost", () -> x.read(0, 0));
        Check.state(x, "read(1, 0), dead", () -> x.read(1, 0));
    }

    private static void readStaysAndIsLost() {
        Iemotohall x = Halls.flat(4);
        x.give(1);
        x.give(2);
        x.secret(1, 1, -1);
        x.read(2, 0);
        x.revoke(2, 1);
        x.die(1);
        Check.is("read by one whose step fell: not lost", x.ofSecret(0, 2), 0);
        Check.is("what 2 read", x.ofPerson(2, 9), 1);
        Check.is("what 2 understands", x.ofPerson(2, 10), 1);
        Check.is("what the dead 1 understands", x.ofPerson(1, 10), 1);
        x.die(3);
        Check.is("one that has not read it died", x.ofSecret(0, 2), 0);
        x.die(2);
        Check.is("the last living reader died", x.ofSecret(0, 2), 1);
        Check.is("those that are lost", x.many(5), 1);
    }

    private static void copy() {
        Iemotohall x = Halls.flat(2);
        x.secret(0, 0, -1);
        x.read(1, 0);
        Check.is("copy(1, 0)", x.copy(1, 0), 50);
        Check.is("coins of 1", x.ofPerson(1, 3), 50);
        Check.is("a copy", x.ofSecret(0, 3), 1);
        x.secret(1, 0, -1);
        x.utensil(1, 0, -1, 0, 9);
        x.utensil(1, 0, -1, 0, 1);
        Check.is("copy(1, 1) for all its 10 coins", x.copy(1, 1), 0);
        Iemotohall fallen = Halls.flat(2);
        fallen.give(1);
        fallen.secret(1, 1, -1);
        fallen.revoke(1, 1);
        Check.is("copy by one whose step fell", fallen.copy(1, 0), 45);
    }

    private static void copyRefused() {
        Iemotohall x = Halls.flat(3);
        x.secret(0, 0, -1);
        x.secret(0, 0, 0);
        x.secret(2, 0, -1);
        Check.index(x, "copy(3, 0)", () -> x.copy(3, 0));
        Check.index(x, "copy(-1, 0)", () -> x.copy(-1, 0));
        Check.index(x, "copy(0, 3)", () -> x.copy(0, 3));
        Check.index(x, "copy(0, -1)", () -> x.copy(0, -1));
        Check.state(x, "copy(1, 0), not read", () -> x.copy(1, 0));
        x.read(1, 1);
        Check.state(x, "copy(1, 1), not understood", () -> x.copy(1, 1));
        x.copy(0, 0);
        Check.state(x, "copy(0, 0), there is one", () -> x.copy(0, 0));
        x.die(2);
        Check.state(x, "copy(2, 2), dead and lost", () -> x.copy(2, 2));
        x.read(1, 0);
        x.die(1);
        Check.state(x, "copy(1, 1), dead", () -> x.copy(1, 1));
        x.utensil(0, 0, -1, 0, 9);
        x.utensil(0, 0, -1, 0, 2);
        Check.is("coins of 0", x.ofPerson(0, 3), 6);
        Check.state(x, "copy(0, 1) for 6 coins", () -> x.copy(0, 1));
        x.pass(1);
        Check.is("coins of 0", x.ofPerson(0, 3), 7);
        x.pass(2);
        Check.state(x, "copy(0, 1) for 9 coins", () -> x.copy(0, 1));
        x.pass(1);
        Check.is("copy(0, 1) for 10 coins", x.copy(0, 1), 0);
    }

    private static void rebuild() {
        Iemotohall x = Halls.flat(3);
        x.give(1);
        x.give(2);
        x.secret(1, 1, -1);
        x.secret(1, 1, 0);
        x.secret(1, 0, -1);
        x.copy(1, 0);
        x.copy(1, 1);
        x.die(1);
        Check.is("those that are lost", x.many(5), 3);
        Check.is("rebuild(2, 0), of just its step", x.rebuild(2, 0), 2);
        int[] due = {1, -1, 0, 0, 1, 1, 1};
        for (int what = 0; what < due.length; what++) {
            Check.is("ofSecret(0, " + what + ")", x.ofSecret(0, what), due[what]);
        }
        Check.is("coins of 2", x.ofPerson(2, 3), 55);
        Check.is("rebuild(2, 1) with its key", x.rebuild(2, 1), 1);
        Check.is("what 2 understands", x.ofPerson(2, 10), 3);
        Check.is("copy(2, 0), a new one", x.copy(2, 0), 45);
    }

    private static void rebuildRefused() {
        Iemotohall x = Halls.flat(5);
        x.give(1);
        x.give(4);
        x.secret(1, 1, -1);
        x.secret(1, 1, 0);
        x.secret(1, 0, -1);
        x.copy(1, 0);
        x.copy(1, 1);
        x.read(4, 0);
        Check.index(x, "rebuild(5, 0)", () -> x.rebuild(5, 0));
        Check.index(x, "rebuild(-1, 0)", () -> x.rebuild(-1, 0));
        Check.index(x, "rebuild(0, 3)", () -> x.rebuild(0, 3));
        Check.index(x, "rebuild(0, -1)", () -> x.rebuild(0, -1));
        Check.state(x, "rebuild(0, 0), not lost", () -> x.rebuild(0, 0));
        x.die(1);
        Check.state(x, "rebuild(0, 2), no copy", () -> x.rebuild(0, 2));
        Check.state(x, "rebuild(0, 1), without the key", () -> x.rebuild(0, 1));
        Check.state(x, "rebuild(3, 1), without step and key", () -> x.rebuild(3, 1));
        x.die(4);
        Check.state(x, "rebuild(2, 0), without the step", () -> x.rebuild(2, 0));
        Check.state(x, "rebuild(4, 0), dead", () -> x.rebuild(4, 0));
        Check.state(x, "rebuild(4, 1), dead, though it knows the key", () -> x.rebuild(4, 1));
        Check.is("rebuild(0, 0)", x.rebuild(0, 0), 2);
        Check.state(x, "rebuild(0, 0) again", () -> x.rebuild(0, 0));
    }

    private static void ofSecret() {
        Iemotohall x = Halls.flat(5);
        x.give(1);
        x.give(2);
        x.secret(0, 1, -1);
        x.secret(0, 0, 0);
        x.read(1, 0);
        x.read(1, 1);
        x.read(3, 1);
        Check.is("readers of 1", x.ofSecret(1, 4), 3);
        Check.is("those of them that understand it", x.ofSecret(1, 5), 2);
        Check.is("those that may read 1 yet", x.ofSecret(1, 6), 2);
        Check.is("those that may read 0 yet", x.ofSecret(0, 6), 1);
        x.die(1);
        Check.is("living readers of 1", x.ofSecret(1, 4), 2);
        Check.is("those of them that understand it", x.ofSecret(1, 5), 1);
        x.die(2);
        Check.is("living ones that may read 1 yet", x.ofSecret(1, 6), 1);
        x.give(4);
        Check.is("one may read 0 yet", x.ofSecret(0, 6), 1);
        x.die(0);
        Check.is("0 is lost", x.ofSecret(0, 2), 1);
        Check.is("1 is not, by 3", x.ofSecret(1, 2), 0);
        Check.is("nobody may read the lost one", x.ofSecret(0, 6), 0);
        Check.is("readers of the lost one", x.ofSecret(0, 4), 0);
    }

    private static void ofSecretRefused() {
        Iemotohall x = Halls.flat(1);
        x.secret(0, 0, -1);
        Check.index(x, "ofSecret(1, 0)", () -> x.ofSecret(1, 0));
        Check.index(x, "ofSecret(-1, 7)", () -> x.ofSecret(-1, 7));
        Check.index(x, "ofSecret(8, 0)", () -> x.ofSecret(8, 0));
        Check.index(x, "ofSecret(the greatest, 0)", () -> x.ofSecret(Integer.MAX_VALUE, 0));
        Check.argument(x, "ofSecret(0, 7)", () -> x.ofSecret(0, 7));
        Check.argument(x, "ofSecret(0, -1)", () -> x.ofSecret(0, -1));
    }

    private static void wouldLose() {
        Iemotohall x = Halls.flat(3);
        x.secret(1, 0, -1);
        x.secret(1, 0, 0);
        x.secret(0, 0, -1);
        x.secret(1, 0, -1);
        x.read(2, 1);
        Check.is("wouldLose(1)", x.wouldLose(1), 1 | 8);
        Check.is("wouldLose(0)", x.wouldLose(0), 4);
        Check.is("wouldLose(2)", x.wouldLose(2), 0);
        Check.is("nothing is lost by that", x.many(5), 0);
        x.die(1);
        Check.is("lost", x.many(5), 2);
        Check.is("wouldLose(1), dead", x.wouldLose(1), 0);
        Check.is("wouldLose(2)", x.wouldLose(2), 2);
        Check.index(x, "wouldLose(3)", () -> x.wouldLose(3));
        Check.index(x, "wouldLose(-1)", () -> x.wouldLose(-1));
    }
}
