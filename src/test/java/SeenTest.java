/** Promises 15 to 18: sees, forget, had, ask. */
public final class SeenTest {
    public static void main(String[] args) {
        Due d = new Due();
        seeing(d);
        having(d);
        asking(d);
        d.end();
    }

    private static void seeing(Due d) {
        TruePies x = Due.told("v a;v b;");
        d.due("sees(-1, 0, 0)", x.sees(-1, 0, 0), -1);
        d.due("sees(6, 0, 0)", x.sees(6, 0, 0), -1);
        d.due("sees(0, -1, 0)", x.sees(0, -1, 0), -1);
        d.due("sees(0, 2, 0)", x.sees(0, 2, 0), -1);
        d.due("sees(0, 0, -1)", x.sees(0, 0, -1), -1);
        d.due("sees(0, 0, 2)", x.sees(0, 0, 2), -1);
        d.due("nothing is seen", x.count(5), 0);
        for (int many = 1; many <= 6; many++) {
            d.due("sees(5, 1, 0)", x.sees(5, 1, 0), many);
        }
        d.due("full: sees(5, 1, 0)", x.sees(5, 1, 0), -3);
        d.due("full: sees(6, 1, 0) is BAD first", x.sees(6, 1, 0), -1);
        d.due("forget()", x.forget(), 6);
        d.due("forget() again", x.forget(), 0);
        d.due("sees() behind forget()", x.sees(0, 0, 1), 1);
        d.due("no leaves: sees(0, 0, 0)", new TruePies().sees(0, 0, 0), -1);
    }

    private static void having(Due d) {
        TruePies x = Due.told("v abc;v d;");
        had(d, x, 64, 0, 63);
        x.sees(0, 0, 1);
        had(d, x, 32, 1, 63);
        x.sees(1, 0, 0);
        had(d, x, 16, 1, 61);
        x.sees(3, 0, 0);
        had(d, x, 16, 1, 61);
        x.sees(3, 1, 1);
        had(d, x, 8, 9, 61);
        x.sees(2, 1, 1);
        had(d, x, 0, -9, 0);
        x.forget();
        had(d, x, 64, 0, 63);
        x.sees(0, 0, 1);
        x.sees(0, 0, 0);
        had(d, x, 0, -9, 0);
        d.due("had(-1)", x.had(-1), -1);
        d.due("had(3)", x.had(3), -1);
    }

    private static void had(Due d, TruePies x, int many, int inAll, int inSome) {
        d.due("had(0)", x.had(0), many);
        d.due("had(1)", x.had(1), inAll);
        d.due("had(2)", x.had(2), inSome);
    }

    private static void asking(Due d) {
        TruePies x = Due.told("v cf;v a;v abcdef;");
        d.due("ask(0)", x.ask(0), 2);
        d.due("ask(1)", x.ask(1), 0);
        x.sees(0, 1, 1);
        d.due("nothing to learn on 1: the lowest", x.ask(1), 0);
        d.due("ask(2)", x.ask(2), 1);
        x.sees(2, 0, 0);
        d.due("ask(0), c is known", x.ask(0), 5);
        x.sees(1, 2, 1);
        x.sees(3, 2, 0);
        x.sees(4, 2, 0);
        d.due("two can be", x.had(0), 2);
        d.due("ask(0), two can be", x.ask(0), 5);
        d.due("ask(1), two can be", x.ask(1), 0);
        x.sees(5, 0, 1);
        d.due("one can be", x.had(0), 1);
        d.due("ask(0), one can be", x.ask(0), -9);
        x.forget();
        x.sees(0, 0, 1);
        d.due("ask(0), none can be", x.ask(0), -9);
        d.due("ask(-1)", x.ask(-1), -1);
        d.due("ask(3): BAD first", x.ask(3), -1);
        d.due("no leaves: ask(0)", new TruePies().ask(0), -1);
    }
}
