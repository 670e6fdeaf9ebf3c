/** What the document says under "Terms" on potentials, needs and bounds. */
final class BoundTerms {
    private BoundTerms() {
    }

    static void all() {
        unknowns();
        conditions();
        needOfEmptyAndVariable();
        needOfLongerAndPay();
        needOfCall();
        needOfThen();
        branchUnknowns();
        needOfBranches();
        needOfFunction();
        bounds();
        best();
        none();
        mostUnknowns();
        mostConditions();
    }

    /** Function 0 takes a list and pays 3 for each of its elements: q is 3, p is 0; 7 unknowns, 8 conditions. */
    private static PotentialBench payer() {
        return Check.bench(1, 3, 0, 0, 4, 3, 5, 0, 1);
    }

    /** The best numbers of a function with this body, beside one that pays 3 for each element. */
    private static void withPayer(int takes, int[] body, long... best) {
        PotentialBench x = payer();
        Check.function(x, takes, body);
        Bounds.best(x, 1, best);
    }

    private static int[] body(int... words) {
        return words;
    }

    private static void unknowns() {
        Check.says("POTENTIALS are numbers not below 0 that an element of a list brings with it.");
        // with -9 of the list, p could be paid back
        Bounds.best(Check.bench(1, 3, 0, 4, 9, 0, 0), 0, 0, 9);
        Check.says("A function f has for each list that it takes q(f, i), a number p(f) besides, for what it gives r(f)"
            + " an element, and s(f) that is left: its UNKNOWNS.");
        for (int takes = 0; takes <= 3; takes++) {
            Bounds.made(takes + 3, takes + 1, takes, 0);
        }
        PotentialBench x = new PotentialBench();
        int[] all = {3, 7, 12, 18};
        for (int f = 0; f < 4; f++) {
            Check.function(x, f, 0);
            Check.due("bound", x.bound(f), 1);
            Bounds.told(x, all[f], all[f] - 2 * (f + 1));
        }
    }

    private static void conditions() {
        Check.says("More unknowns, and CONDITIONS (each \"at least\" here is one), are made as bodies are gone through.");
        Bounds.made(4, 2, 1, 1, 0);
        Bounds.made(4, 2, 1, 2, 2, 1, 0);
        Bounds.made(4, 2, 1, 4, 9, 1, 0);
        Bounds.made(4, 2, 1, 6, 0, 6, 1, 0, 1, 2);
        Bounds.made(5, 5, 1, 5, 0, 0);
        Bounds.made(6, 8, 1, 6, 5, 0, 0, 5, 0, 1);
        Bounds.made(6, 5, 1, 3, 0, 0, 0);
        // a condition that always holds, or that was there before, is one too
        Bounds.made(11, 17, 1, 6, 3, 0, 5, 0, 0, 5, 0, 0, 6, 5, 0, 0, 3, 0, 0, 0);
        Check.says("What an expression NEEDS, when each element of what it gives has to bring r, and d has to be left (both"
            + " are sums of unknowns with whole factors, and a whole number): for each variable a sum (0 if nothing is"
            + " said), and a sum besides:");
        // nothing is said of the second list
        withPayer(2, body(5, 0, 0), 3, 0, 0);
    }

    private static void needOfEmptyAndVariable() {
        Check.says("0: besides d.");
        // 7 has to be left for what comes then
        Bounds.best(Check.bench(0, 6, 0, 4, 7, 0), 0, 7);
        withPayer(1, body(6, 0, 5, 0, 1), 0, 0);
        Check.says("1 v: of v r; besides d.");
        Bounds.best(Check.bench(2, 6, 1, 1, 4, 7, 0), 0, 0, 0, 7);
        withPayer(2, body(6, 1, 1, 5, 0, 2), 0, 3, 0);
        withPayer(2, body(6, 1, 0, 5, 0, 2), 3, 0, 0);
    }

    private static void needOfLongerAndPay() {
        Check.says("2 e: as e, with r, and d + r in place of d.");
        withPayer(1, body(6, 2, 0, 5, 0, 1), 0, 3);
        withPayer(1, body(6, 2, 2, 0, 4, 7, 5, 0, 1), 0, 13);
        withPayer(1, body(6, 2, 1, 0, 5, 0, 1), 3, 3);
        // what has to be left of a call, for the element that is put before what it gives
        PotentialBench x = payer();
        Check.function(x, 1, 3, 0, 0, 2, 5, 1, 1);
        Check.function(x, 1, 6, 5, 1, 0, 5, 0, 1);
        Bounds.best(x, 2, 3, 0);
        Check.body(x, 1, 3, 0, 0, 2, 2, 2, 5, 1, 1);
        Bounds.best(x, 2, 9, 0);
        Check.says("4 n e: as e, and n more besides.");
        Bounds.best(Check.bench(0, 4, 0, 0), 0, 0);
        Bounds.best(Check.bench(0, 4, 1000, 0), 0, 1000);
        Bounds.best(Check.bench(0, 4, 1000, 4, 0, 4, 1, 0), 0, 1001);
        withPayer(2, body(6, 4, 5, 1, 1, 4, 7, 5, 0, 2), 0, 3, 12);
    }

    private static void needOfCall() {
        Check.says("5 f ..: a new unknown a: a is at least p(f);");
        Bounds.made(4, 4, 0, 5, 0);
        PotentialBench x = Check.bench(0, 4, 8, 0);
        Check.function(x, 0, 5, 0);
        Bounds.best(x, 1, 8);
        // also where more than enough is left: what never ends leaves as much as one likes
        x = Check.bench(0, 5, 0);
        Check.function(x, 0, 4, 5, 5, 0);
        Check.function(x, 0, 5, 1);
        Bounds.best(x, 2, 5);
        Check.says("a is at least p(f) + d - s(f);");
        Check.body(x, 2, 6, 5, 1, 4, 9, 0);
        Bounds.best(x, 2, 5);
        x = Check.bench(0, 4, 8, 0);
        Check.function(x, 0, 6, 5, 0, 4, 9, 0);
        Bounds.best(x, 1, 17);
        Check.function(x, 0, 6, 5, 0, 6, 5, 0, 4, 1, 0);
        Bounds.best(x, 2, 17);
        Check.says("r(f) is at least r.");
        x = payer();
        Check.function(x, 1, 1, 0);
        Check.function(x, 1, 6, 5, 1, 0, 5, 0, 1);
        Bounds.best(x, 2, 3, 0);
        Bounds.best(x, 1, 3, 0);
        Check.body(x, 2, 6, 5, 1, 0, 6, 5, 0, 1, 5, 0, 1);
        Bounds.best(x, 2, 6, 0);
        Bounds.best(x, 1, 6, 0);
        Check.says("It needs q(f, i) of the variable that it hands over as list i (the sum, where one is handed over more"
            + " than once); besides a.");
        // 1 for each element of the first list, 10 of the second, 100 of the third
        x = Check.bench(3, 3, 0, 3, 1, 3, 2, 0, 4, 100, 5, 0, 0, 1, 3, 4, 10, 5, 0, 0, 3, 2, 4, 1, 5, 0, 3, 1, 2);
        Bounds.best(x, 0, 1, 10, 100, 0);
        Check.function(x, 3, 5, 0, 2, 0, 1);
        Bounds.best(x, 1, 10, 100, 1, 0);
        Check.body(x, 1, 5, 0, 2, 2, 1);
        Bounds.best(x, 1, 0, 100, 11, 0);
        Check.body(x, 1, 5, 0, 0, 0, 0);
        Bounds.best(x, 1, 111, 0, 0, 0);
    }

    private static void needOfThen() {
        Check.says("6 e f: with what f needs for r and d: as e, with what f needs of the new variable in place of r,");
        withPayer(1, body(6, 1, 0, 6, 5, 0, 1, 5, 0, 1), 6, 0);
        withPayer(1, body(6, 1, 0, 0), 0, 0);
        withPayer(2, body(6, 6, 1, 0, 1, 2, 5, 0, 2), 3, 0, 0);
        Check.says("and what f needs besides in place of d;");
        Bounds.best(Check.bench(0, 6, 4, 5, 0, 4, 7, 0), 0, 12);
        Bounds.best(Check.bench(0, 6, 6, 4, 1, 0, 4, 10, 0, 6, 4, 100, 0, 4, 1000, 0), 0, 1111);
        // what f is left with, its own d, has to be left by e
        PotentialBench x = Check.bench(0, 6, 0, 0);
        Check.function(x, 0, 6, 5, 0, 4, 9, 0);
        Bounds.best(x, 1, 9);
        Check.says("and of each variable what f needs more.");
        withPayer(2, body(6, 5, 0, 0, 5, 0, 0), 6, 0, 0);
        withPayer(2, body(6, 5, 0, 0, 5, 0, 1), 3, 3, 0);
        withPayer(2, body(6, 6, 5, 0, 1, 5, 0, 0, 6, 5, 0, 1, 5, 0, 1), 3, 9, 0);
    }

    private static void branchUnknowns() {
        Check.says("3 v e f: new unknowns t, c, and for each other variable that is known here and named within e or f one,"
            + " m;");
        Bounds.made(8, 7, 3, 3, 0, 0, 0);
        Bounds.made(9, 9, 3, 3, 0, 1, 1, 0);
        Bounds.made(9, 9, 3, 3, 0, 0, 1, 2);
        Bounds.made(9, 9, 3, 3, 0, 1, 1, 1, 1);
        Bounds.made(10, 11, 3, 3, 0, 1, 1, 1, 2);
        Bounds.made(10, 11, 3, 3, 1, 1, 0, 1, 2);
        // not the one that is asked, not a new one of f, not one that is made within
        Bounds.made(8, 7, 3, 3, 0, 1, 0, 1, 0);
        Bounds.made(8, 7, 3, 3, 0, 0, 1, 3);
        Bounds.made(8, 7, 3, 3, 0, 6, 0, 1, 3, 0);
        Bounds.made(8, 7, 3, 3, 0, 0, 6, 0, 1, 4);
        // named is also what is asked, what is handed over, and what stands far within
        Bounds.made(11, 12, 3, 3, 0, 3, 1, 0, 0, 0);
        Bounds.made(11, 14, 3, 3, 0, 5, 0, 0, 1, 2, 0);
        Bounds.made(11, 14, 3, 3, 0, 0, 5, 0, 3, 2, 1);
        Bounds.made(9, 9, 3, 3, 0, 0, 2, 4, 0, 6, 0, 6, 1, 2, 0);
        Bounds.made(12, 14, 3, 3, 0, 0, 3, 1, 1, 3, 0);
        // known are also those that are made round it
        Bounds.made(9, 9, 3, 6, 0, 3, 0, 1, 3, 0);
        Bounds.made(9, 9, 3, 6, 0, 3, 3, 1, 0, 0);
        // many of them: 3 lists and 12 new ones are known, and all but the one that is asked are named
        int[] e = {6, 5, 0, 1, 2, 3, 6, 5, 0, 4, 5, 6, 5, 0, 7, 8, 9};
        int[] f = {6, 5, 0, 10, 11, 12, 5, 0, 13, 14, 14};
        Bounds.made(27, 50, 3, Bodies.of(Bodies.times(12, 6, 0), 3, 0, e, f));
    }

    private static void needOfBranches() {
        Check.says("with what e and f need for r and d: t is at least what f needs of the new variable;");
        withPayer(1, body(3, 0, 0, 5, 0, 1), 3, 0);
        Check.says("c is at least what e needs besides;");
        Bounds.best(Check.bench(1, 3, 0, 4, 5, 0, 0), 0, 0, 5);
        Check.says("c + t is at least what f needs besides;");
        Bounds.best(Check.bench(1, 3, 0, 0, 4, 5, 0), 0, 0, 5);
        Bounds.best(Check.bench(1, 3, 0, 4, 2, 0, 4, 5, 5, 0, 1), 0, 5, 2);
        Check.says("each m is at least what e needs of its variable, and at least what f needs of it.");
        withPayer(2, body(3, 0, 5, 0, 1, 0), 0, 3, 0);
        withPayer(2, body(3, 0, 0, 5, 0, 1), 0, 3, 0);
        withPayer(2, body(3, 0, 5, 0, 1, 6, 5, 0, 1, 5, 0, 1), 0, 6, 0);
        withPayer(2, body(3, 0, 6, 5, 0, 1, 5, 0, 1, 5, 0, 1), 0, 6, 0);
        withPayer(3, body(3, 1, 5, 0, 0, 5, 0, 2), 3, 0, 3, 0);
        Check.says("Of v it needs t and what f needs of v;");
        withPayer(1, body(3, 0, 0, 6, 5, 0, 1, 5, 0, 0), 6, 0);
        withPayer(1, body(3, 0, 0, 5, 0, 0), 3, 0);
        withPayer(1, body(3, 0, 5, 0, 0, 0), 0, 0);
        withPayer(1, body(3, 0, 5, 0, 0, 5, 0, 0), 3, 0);
        Check.says("of each other one its m; besides c.");
        withPayer(2, body(6, 3, 0, 5, 0, 1, 0, 5, 0, 1), 0, 6, 0);
        Bounds.best(Check.bench(1, 6, 3, 0, 4, 5, 0, 4, 1, 0, 4, 7, 0), 0, 0, 12);
    }

    private static void needOfFunction() {
        Check.says("For each function: q(f, i) is at least what its body needs of list i for r(f) and s(f), and p(f) at"
            + " least what that needs besides.");
        PotentialBench x = payer();
        // r(f): each element that it gives has to bring 3; s(f): 7 have to be left, and r of the element more
        Check.function(x, 2, 2, 1, 1);
        Check.function(x, 2, 6, 5, 1, 0, 1, 4, 7, 5, 0, 2);
        Bounds.best(x, 2, 0, 3, 10);
        Bounds.best(x, 1, 0, 3, 3);
        Bounds.best(x, 0, 3, 0);
    }

    private static void bounds() {
        Check.says("BOUNDS of function f are numbers for all unknowns, not below 0, for which all of this holds;");
        // a half: numbers need not be whole
        PotentialBench x = Check.bench(1, 3, 0, 0, 3, 1, 0, 4, 1, 5, 0, 2);
        Check.due("a half, bound", x.bound(0), 1);
        Check.due("a half, scaled 0", x.scaled(0, 0), 0);
        Check.due("a half, scaled 1", x.scaled(0, 1), 1);
        // all functions: one that needs nothing of the other has no bounds either
        x = Check.bench(0, 4, 1, 5, 0);
        Check.function(x, 0, 0);
        Bounds.none(x, 1, 7, 5);
        Check.body(x, 0, 4, 1, 0);
        Bounds.best(x, 1, 0);
    }

    private static void best() {
        Check.says("the BEST ones are those with the least sum q(f, 0) + q(f, 1) + .. + p(f);");
        // 3 of the first list, not 6 of the second; and the other way round
        Bounds.best(Check.bench(2, 3, 1, 0, 3, 0, 0, 3, 3, 0, 4, 6, 5, 0, 4, 2), 0, 3, 0, 0);
        Bounds.best(Check.bench(2, 3, 0, 0, 3, 1, 0, 3, 3, 0, 4, 6, 5, 0, 2, 4), 0, 0, 3, 0);
        // 3 for each of two elements, not 6 besides
        Bounds.best(Check.bench(1, 3, 0, 0, 3, 1, 0, 4, 6, 0), 0, 3, 0);
        // the sum is that of f: another function's numbers do not matter
        PotentialBench x = Check.bench(1, 3, 0, 0, 4, 6, 0);
        Check.function(x, 1, 3, 0, 0, 3, 1, 0, 5, 0, 2);
        Bounds.best(x, 1, 2, 0);
        Bounds.best(x, 0, 0, 6);
        Check.says("of these those with the least q(f, 0), of these the least q(f, 1), and so on, then p(f).");
        Bounds.best(Check.bench(1, 3, 0, 0, 4, 7, 0), 0, 0, 7);
        Bounds.best(Check.bench(2, 3, 1, 0, 4, 7, 0), 0, 0, 0, 7);
        Bounds.best(Check.bench(3, 3, 2, 0, 4, 7, 0), 0, 0, 0, 0, 7);
        Bounds.best(Check.bench(2, 3, 0, 0, 3, 1, 0, 4, 5, 5, 0, 2, 3), 0, 0, 5, 0);
        Bounds.best(Check.bench(2, 3, 1, 0, 3, 0, 0, 4, 5, 5, 0, 3, 2), 0, 0, 5, 0);
        Bounds.best(Check.bench(3, 3, 0, 0, 3, 2, 0, 4, 5, 5, 0, 3, 1, 4), 0, 0, 0, 5, 0);
        Bounds.best(Check.bench(3, 3, 2, 0, 3, 1, 0, 4, 5, 5, 0, 0, 4, 3), 0, 0, 0, 5, 0);
        Bounds.best(Check.bench(3, 3, 1, 0, 3, 0, 0, 4, 5, 5, 0, 4, 3, 2), 0, 0, 5, 0, 0);
    }

    private static void none() {
        Check.says("There may be none.");
        Bounds.none(Check.bench(1, 4, 1, 5, 0, 0), 0, 5, 5);
        // one that costs nothing has some
        Bounds.best(Check.bench(1, 4, 0, 5, 0, 0), 0, 0, 0);
        // elements without end have to bring nothing where none asks for it
        Bounds.best(Check.bench(1, 2, 5, 0, 0), 0, 0, 0);
        PotentialBench x = payer();
        Check.function(x, 1, 3, 0, 0, 6, 5, 0, 0, 5, 1, 1);
        Bounds.none(x, 1, 15, 19);
        Bounds.none(x, 0, 15, 19);
        // each element of the first list makes the second one twice as long
        x = payer();
        Check.function(x, 1, 3, 0, 0, 2, 2, 5, 1, 1);
        Check.function(x, 2, 3, 0, 5, 0, 1, 6, 5, 1, 1, 5, 2, 2, 3);
        Check.due("twice as long, bound", x.bound(2), 0);
        Bounds.noBest(x, "twice as long");
    }

    /** Four functions of three lists, or the last one of others (24 unknowns and 16 conditions, or less). */
    private static PotentialBench wide(int lastTakes, int[] body, int... bodyToo) {
        PotentialBench x = new PotentialBench();
        for (int f = 0; f < 4; f++) {
            x.function(f < 3 ? 3 : lastTakes);
        }
        for (int f = 0; f < 4; f++) {
            Check.words(x, f, f == 0 ? body : f == 1 && bodyToo.length > 0 ? bodyToo : body(0));
        }
        return x;
    }

    private static void fits(PotentialBench x, int unknowns, int conditions) {
        Check.due("look", x.look(), 0);
        Check.due("bound", x.bound(0), 1);
        Bounds.told(x, unknowns, conditions);
    }

    private static void mostUnknowns() {
        Check.says("At most 40 unknowns");
        int[] seven = Bodies.times(7, 3, 0, 0);
        int[] call = {5, 1, 0, 0, 0};
        // the last ones are t and c
        fits(wide(3, Bodies.of(seven, 3, 0, 0, 0)), 40, 40);
        Bounds.full(wide(3, Bodies.of(seven, 3, 0, 0, 3, 0, 0, 0)), 0);
        fits(wide(2, Bodies.of(seven, 3, 0, 0, 0)), 39, 39);
        Bounds.full(wide(2, Bodies.of(seven, 3, 0, 0, 3, 0, 0, 0)), 0);
        // the last one is the a of a call
        fits(wide(3, Bodies.of(seven, 6, call, call)), 40, 43);
        Bounds.full(wide(3, Bodies.of(seven, 6, call, 6, call, call)), 0);
        Bounds.full(wide(3, Bodies.of(seven, 3, 0, 0, call)), 0);
        fits(wide(2, Bodies.of(seven, 3, 0, 0, call)), 40, 42);
        // the last one is an m
        fits(wide(3, Bodies.of(seven, 0), 3, 0, 0, 0), 40, 40);
        Bounds.full(wide(3, Bodies.of(seven, 0), 3, 0, 1, 1, 0), 0);
        fits(wide(2, Bodies.of(seven, 0), 3, 0, 1, 1, 0), 40, 41);
        Bounds.full(wide(2, Bodies.of(seven, 0), 3, 0, 1, 1, 1, 2), 0);
        fits(wide(3, Bodies.of(3, 0, 6, 1, 1, 1, 2, Bodies.times(6, 3, 0, 0), 0)), 40, 41);
        Bounds.full(wide(3, Bodies.of(3, 0, 6, 1, 1, 1, 2, seven, 0)), 0);
        // the last ones are those of a function
        int[] calls = Bodies.joined(16, 5, 0, 0, 0, 0);
        PotentialBench x = wide(3, calls);
        fits(x, 40, 64);
        Check.body(x, 1, 5, 0, 0, 0, 0);
        Bounds.full(x, 0);
        Bounds.full(x, 3);
        Check.body(x, 1, 0);
        fits(x, 40, 64);
        x = Check.bench(3, Bodies.joined(19, 5, 0, 0, 0, 0));
        Check.function(x, 3, 5, 0, 0, 0, 0);
        Check.function(x, 2, 0);
        fits(x, 37, 71);
        Check.function(x, 0, 0);
        fits(x, 40, 72);
        x = Check.bench(3, Bodies.joined(19, 5, 0, 0, 0, 0));
        Check.function(x, 3, 5, 0, 0, 0, 0);
        Check.function(x, 2, 0);
        Check.function(x, 1, 0);
        Bounds.full(x, 0);
    }

    /** Functions that take so many lists; functions 0 and 1 have these bodies, the others are empty. */
    private static PotentialBench two(int[] takes, int[] body, int[] bodyToo) {
        PotentialBench x = new PotentialBench();
        for (int lists : takes) {
            x.function(lists);
        }
        for (int f = 0; f < takes.length; f++) {
            Check.words(x, f, f == 0 ? body : f == 1 ? bodyToo : body(0));
        }
        return x;
    }

    /** 26 calls, each of which hands on what the one before gave, and a branch; so much is paid at first by each. */
    private static PotentialBench largest(int paid, int paidToo) {
        int[] one = {4, paid, 6, 5, 1, 1, 2, 3, 3, 5, 1, 0, 0};
        for (int v = 4; v < 14; v++) {
            one = Bodies.of(one, 6, 5, v % 2, v, 0, v % 2 == 0 ? body(0) : body());
        }
        int[] two = {4, paidToo};
        for (int v = 1; v < 13; v++) {
            two = Bodies.of(two, 6, 5, v % 2, v, 0, v % 2 == 0 ? body(0) : body());
        }
        return two(body(3, 2), Bodies.of(one, 5, 1, 14, 0), Bodies.of(two, 5, 0, 13, 0, 1));
    }

    private static void mostConditions() {
        Check.says("and 90 conditions.");
        int[] call = {5, 1, 0};
        int[] none = {5, 1};
        int[] calls14 = Bodies.joined(14, call);
        int[] calls15 = Bodies.joined(15, none);
        // the last ones are those of a function: of each list, and besides
        fits(two(body(3, 1), calls14, calls14), 38, 90);
        Bounds.full(two(body(3, 2), Bodies.joined(14, 5, 1, 0, 0), Bodies.joined(14, 5, 1, 0, 0)), 0);
        fits(two(body(2, 1), calls14, calls14), 37, 89);
        fits(two(body(1, 0), Bodies.joined(14, none), calls15), 36, 90);
        Bounds.full(two(body(2, 0), Bodies.joined(14, none), calls15), 0);
        Bounds.full(two(body(1, 0, 0), Bodies.joined(14, none), calls15), 1);
        // the last ones are those of a call
        Bounds.full(two(body(1, 0), calls15, calls15), 0);
        Bounds.full(two(body(0, 0), calls15, calls15), 0);
        fits(two(body(0, 0), Bodies.joined(14, none), calls15), 35, 89);
        // the last ones are those of a branch, and of an m
        int[] calls13 = Bodies.joined(13, none);
        int[] branch = Bodies.of(3, 0, 0, Bodies.joined(14, none));
        fits(two(body(1, 0), branch, Bodies.joined(14, none)), 37, 90);
        Bounds.full(two(body(2, 0), branch, Bodies.joined(14, none)), 0);
        int[] other = Bodies.of(3, 0, 1, 1, calls13);
        fits(two(body(2, 0), other, Bodies.joined(14, none)), 38, 90);
        Bounds.full(two(body(3, 0), other, Bodies.joined(14, none)), 0);
        Bounds.full(two(body(2, 0, 0), other, Bodies.joined(14, none)), 2);
        // too many of both
        Bounds.full(two(body(3, 0, 3, 3), Bodies.joined(20, none), Bodies.joined(20, none)), 0);
        // 40 and 90 at once, and each condition says something: as large as it gets
        PotentialBench x = largest(0, 0);
        fits(x, 40, 90);
        Bounds.best(x, 0, 0, 0, 0, 0);
        Bounds.best(x, 1, 0, 0, 0);
        Check.body(x, 1, 1, 1);
        fits(x, 27, 51);
        // function 1 calls itself first and never ends, so that nothing else has to be paid but what comes before
        x = largest(7, 0);
        Bounds.best(x, 0, 0, 0, 0, 7);
        Bounds.best(x, 1, 0, 0, 0);
        Bounds.none(largest(0, 7), 1, 40, 90);
        // and there is room again
        x = two(body(1, 0, 0), Bodies.joined(14, none), calls15);
        Bounds.full(x, 0);
        Check.body(x, 1, 0);
        fits(x, 24, 46);
        Check.due("p", x.scaled(3, 0), 0);
    }
}
