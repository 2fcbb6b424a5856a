import java.util.concurrent.Callable;

/** Each promise of the document by itself: ordinary inputs, the edges that it names, and wrong inputs. */
public final class PledgedLoansTest {
    private static final int NONE = PledgedLoans.NONE;
    private static final Class<?> INDEX = IndexOutOfBoundsException.class;
    private static final Class<?> ARGUMENT = IllegalArgumentException.class;
    private static final Class<?> STATE = IllegalStateException.class;

    private static int wrong = 0;
    private static int checks = 0;
    private static int promise = 0;

    private static void due(String what, Object got, Object want) {
        checks++;
        if (!got.equals(want)) {
            wrong++;
            System.out.println("promise " + promise + ": " + what + " answered " + got + ", due is " + want);
        }
    }

    /** The call throws just this exception and changes nothing. */
    private static void refuses(PledgedLoans x, String what, Class<?> want, Callable<Object> call) {
        long before = x.digest();
        Object got;
        try {
            got = call.call();
        } catch (Exception e) {
            got = e.getClass();
        }
        due(what, got, want);
        due(what + " changes nothing", x.digest(), before);
    }

    private static void refusesMembers(PledgedLoans x, String what, OfMember call) {
        for (int member : new int[] {-1, 6, Integer.MIN_VALUE, Integer.MAX_VALUE}) {
            refuses(x, what + " of member " + member, INDEX, () -> call.of(member));
        }
    }

    private static void refusesAmounts(PledgedLoans x, String what, OfMember call) {
        for (int amount : new int[] {0, -1, 10000, Integer.MIN_VALUE, Integer.MAX_VALUE}) {
            refuses(x, what + " of amount " + amount, ARGUMENT, () -> call.of(amount));
        }
    }

    /** The call saves the state from before it, and undo() brings just that one back. */
    private static void undoes(PledgedLoans x, String what, Callable<Object> call) {
        String before = looks(x);
        int saved = x.count(11);
        try {
            call.call();
        } catch (Exception e) {
            due(what, e.getClass(), null);
        }
        due(what + " saves one state", x.count(11), Math.min(6, saved + 1));
        x.undo();
        due(what + " is undone", looks(x), before);
    }

    /** All that is to be seen, but for the saved states. */
    private static String looks(PledgedLoans x) {
        StringBuilder all = new StringBuilder();
        for (int what = 0; what < 11; what++) {
            all.append(x.count(what)).append(' ');
        }
        all.append(x.setting(0)).append(' ').append(x.setting(1));
        for (int member = 0; member < 6; member++) {
            for (int what = 0; what < 10; what++) {
                all.append(' ').append(x.memberOf(member, what));
            }
            for (int borrower = 0; borrower < 6; borrower++) {
                all.append(' ').append(x.pledged(member, borrower));
            }
        }
        return all.toString();
    }

    private interface OfMember {
        Object of(int number);
    }

    private static void type(PledgedLoans x, String text) {
        for (int i = 0; i < text.length(); i++) {
            x.append(text.charAt(i));
        }
    }

    private static int typeAndRun(PledgedLoans x, String text) {
        x.clearBuffer();
        type(x, text);
        return x.run();
    }

    private static void error(String text, int at) {
        PledgedLoans x = new PledgedLoans();
        type(x, text);
        due("firstError() of " + text, x.firstError(), at);
        due("firstError() again", x.firstError(), at);
    }

    /** Members with 1000, 500, 800 and 50 shares. */
    private static PledgedLoans union() {
        PledgedLoans x = new PledgedLoans();
        x.payIn(0, 1000);
        x.payIn(1, 500);
        x.payIn(2, 800);
        x.payIn(3, 50);
        return x;
    }

    /** Member 1 borrowed 900 over 10 weeks: 500 are held by own shares, 300 by member 0, 200 by member 2. */
    private static PledgedLoans lent() {
        PledgedLoans x = union();
        x.pledge(0, 1, 300);
        x.pledge(2, 1, 200);
        x.borrow(1, 900, 10);
        return x;
    }

    public static void main(String[] args) {
        Runnable[] promises = {
            PledgedLoansTest::newObject, PledgedLoansTest::payIn, PledgedLoansTest::payOut,
            PledgedLoansTest::pledge, PledgedLoansTest::unpledge, PledgedLoansTest::borrow,
            PledgedLoansTest::repay, PledgedLoansTest::week, PledgedLoansTest::pass,
            PledgedLoansTest::dividend, PledgedLoansTest::set, PledgedLoansTest::append,
            PledgedLoansTest::clearBuffer, PledgedLoansTest::firstError, PledgedLoansTest::run,
            PledgedLoansTest::keep, PledgedLoansTest::goBack, PledgedLoansTest::undo,
            PledgedLoansTest::memberOf, PledgedLoansTest::pledged, PledgedLoansTest::count,
            PledgedLoansTest::setting, PledgedLoansTest::whyNot, PledgedLoansTest::greatest,
            PledgedLoansTest::guarantors, PledgedLoansTest::weeksLeft, PledgedLoansTest::ifDivided,
            PledgedLoansTest::riskiest, PledgedLoansTest::lentShare, PledgedLoansTest::digest,
        };
        for (Runnable each : promises) {
            promise++;
            each.run();
        }
        System.out.println(checks + " checks, " + wrong + " wrong");
        if (wrong != 0) {
            System.exit(1);
        }
    }

    private static void newObject() {
        PledgedLoans x = new PledgedLoans();
        due("NONE", PledgedLoans.NONE, -1);
        for (int what = 0; what < 12; what++) {
            due("count " + what, x.count(what), 0);
        }
        for (int member = 0; member < 6; member++) {
            for (int what = 0; what < 10; what++) {
                due("memberOf " + what, x.memberOf(member, what), what < 7 ? 0 : NONE);
            }
            for (int borrower = 0; borrower < 6; borrower++) {
                due("pledged", x.pledged(member, borrower), 0);
            }
        }
        due("fee", x.setting(0), 20);
        due("misses", x.setting(1), 3);
        due("buffer", x.clearBuffer(), 0);
        refuses(x, "slot 0", STATE, () -> x.goBack(0));
        refuses(x, "slot 1", STATE, () -> x.goBack(1));
        refuses(x, "undo", STATE, x::undo);
        PledgedLoans other = new PledgedLoans();
        x.payIn(0, 5);
        due("objects share nothing", other.count(0), 0);
    }

    private static void payIn() {
        PledgedLoans x = new PledgedLoans();
        due("payIn", x.payIn(5, 9999), 9999);
        due("payIn", x.payIn(5, 1), 10000);
        due("till", x.count(0), 10000);
        due("shares", x.memberOf(5, 0), 10000);
        for (int i = 0; i < 8; i++) {
            x.payIn(5, 9999);
        }
        due("up to 90000", x.payIn(5, 90000 - 89992), 90000);
        due("above 90000", x.payIn(5, 1), NONE);
        due("refused", x.count(9), 1);
        due("till stays", x.count(0), 90000);
        due("undoable", x.undo(), 5);
        due("refusal is undone", x.count(9), 0);
        due("shares stay", x.memberOf(5, 0), 90000);
        refusesMembers(x, "payIn", m -> x.payIn(m, 1));
        refusesMembers(x, "payIn, wrong amount too", m -> x.payIn(m, 0));
        refusesAmounts(x, "payIn", a -> x.payIn(0, a));
    }

    private static void payOut() {
        PledgedLoans x = union();
        due("payOut", x.payOut(0, 400), 0);
        due("shares", x.memberOf(0, 0), 600);
        due("till", x.count(0), 1950);
        due("more than is free", x.payOut(0, 601), 1);
        due("all", x.payOut(0, 600), 0);
        due("of nothing", x.payOut(0, 1), 1);
        due("refused", x.count(9), 2);
        PledgedLoans y = lent();
        due("pledges bind", y.payOut(0, 701), 1);
        due("the rest that is not pledged for binds", y.memberOf(1, 4), 100);
        due("more than is free of a borrower", y.payOut(1, 101), 1);
        due("what is free of a borrower", y.payOut(1, 100), 0);
        due("undoable", y.undo(), 5);
        due("shares are back", y.memberOf(1, 0), 500);
        due("the till is back", y.count(0), 1468);
        due("a refusal is undoable", y.undo(), 4);
        due("refused", y.count(9), 1);
        refusesMembers(x, "payOut", m -> x.payOut(m, 1));
        refusesMembers(x, "payOut, wrong amount too", m -> x.payOut(m, 10000));
        refusesAmounts(x, "payOut", a -> x.payOut(0, a));
    }

    private static void pledge() {
        PledgedLoans x = union();
        due("pledge", x.pledge(0, 1, 300), 300);
        due("more of it", x.pledge(0, 1, 200), 500);
        due("for another", x.pledge(0, 5, 100), 100);
        due("more than is free", x.pledge(0, 2, 401), NONE);
        due("refused", x.count(9), 1);
        due("all that is free", x.pledge(0, 2, 400), 400);
        due("shares stay", x.memberOf(0, 0), 1000);
        due("till stays", x.count(0), 2350);
        due("of nothing", x.pledge(4, 0, 1), NONE);
        PledgedLoans y = lent();
        due("a borrower's shares are bound", y.pledge(1, 0, 101), NONE);
        due("what is free of them", y.pledge(1, 0, 100), 100);
        due("nothing is left", y.pledge(1, 2, 1), NONE);
        due("undoable", y.undo(), 5);
        due("undoable", y.undo(), 4);
        due("pledge is gone", y.pledged(1, 0), 0);
        refusesMembers(x, "pledge", m -> x.pledge(m, 1, 1));
        refusesMembers(x, "pledge", m -> x.pledge(1, m, 1));
        refusesMembers(x, "pledge of the same", m -> x.pledge(m, m, 1));
        refusesMembers(x, "pledge, wrong amount too", m -> x.pledge(1, m, 0));
        refusesAmounts(x, "pledge", a -> x.pledge(0, 1, a));
        refuses(x, "both the same", ARGUMENT, () -> x.pledge(2, 2, 1));
    }

    private static void unpledge() {
        PledgedLoans x = lent();
        due("so much is not pledged", x.unpledge(0, 1, 301), 1);
        due("the other way", x.unpledge(1, 0, 1), 1);
        due("the cover would be less", x.unpledge(0, 1, 101), 2);
        due("1 before 2", x.unpledge(2, 1, 201), 1);
        due("refused", x.count(9), 4);
        due("just the rest", x.unpledge(0, 1, 100), 0);
        due("pledged", x.pledged(0, 1), 200);
        due("cover", x.memberOf(1, 3), 900);
        due("nothing more", x.unpledge(2, 1, 1), 2);
        x.repay(1, 900);
        due("all without a loan", x.unpledge(0, 1, 200), 0);
        due("pledged", x.pledged(0, 1), 0);
        due("undoable", x.undo(), 5);
        due("pledged again", x.pledged(0, 1), 200);
        refusesMembers(x, "unpledge", m -> x.unpledge(m, 1, 1));
        refusesMembers(x, "unpledge", m -> x.unpledge(1, m, 1));
        refusesMembers(x, "unpledge of the same", m -> x.unpledge(m, m, 1));
        refusesAmounts(x, "unpledge", a -> x.unpledge(0, 1, a));
        refuses(x, "both the same", ARGUMENT, () -> x.unpledge(0, 0, 1));
    }

    private static void borrow() {
        PledgedLoans x = lent();
        due("the till", x.count(0), 2350 - 882);
        due("the surplus", x.count(1), 18);
        due("rest", x.memberOf(1, 6), 900);
        due("part", x.memberOf(1, 7), 90);
        due("paid", x.memberOf(1, 8), 0);
        due("misses", x.memberOf(1, 9), 0);
        due("given", x.count(5), 1);
        due("1 has a loan", x.borrow(1, 9999, 1), 1);
        due("2 three times the shares", x.borrow(3, 151, 1), 2);
        due("2 before 3", x.borrow(3, 9999, 52), 2);
        due("3 the cover", x.borrow(3, 150, 1), 3);
        due("3 the cover", x.borrow(3, 51, 1), 3);
        due("refused", x.count(9), 5);
        due("given", x.count(5), 1);
        due("part is rounded up", x.borrow(3, 50, 7), 0);
        due("part", x.memberOf(3, 7), 8);
        due("fee is rounded down to 1", x.count(1), 19);
        due("undoable", x.undo(), 5);
        due("no loan", x.memberOf(3, 6), 0);
        x.week();
        x.repay(1, 900);
        x.borrow(1, 90, 9);
        due("a new loan has no misses", x.memberOf(1, 9), 0);
        PledgedLoans y = new PledgedLoans();
        y.payIn(4, 9999);
        y.borrow(4, 9999, 52);
        due("part of 52 weeks", y.memberOf(4, 7), 193);
        due("fee", y.count(1), 199);
        due("till", y.count(0), 199);
        y.repay(4, 9999);
        y.set(0, 100);
        y.borrow(4, 9999, 1);
        due("highest fee", y.count(1), 199 + 999);
        y.repay(4, 9999);
        y.set(0, 0);
        y.borrow(4, 9999, 1);
        due("no fee", y.count(1), 199 + 999);
        due("a loan comes before all", y.borrow(4, 1, 1), 1);
        threeTimes();
        refusesMembers(x, "borrow", m -> x.borrow(m, 1, 1));
        refusesMembers(x, "borrow, wrong weeks too", m -> x.borrow(m, 1, 0));
        refusesAmounts(x, "borrow", a -> x.borrow(0, a, 1));
        for (int weeks : new int[] {0, -1, 53, Integer.MAX_VALUE}) {
            refuses(x, "weeks " + weeks, ARGUMENT, () -> x.borrow(0, 1, weeks));
        }
    }

    private static void threeTimes() {
        PledgedLoans x = new PledgedLoans();
        x.payIn(0, 100);
        x.payIn(1, 5000);
        x.pledge(1, 0, 5000);
        due("cover", x.memberOf(0, 3), 5100);
        due("above three times", x.borrow(0, 301, 52), 2);
        due("three times", x.borrow(0, 300, 52), 0);
        PledgedLoans y = new PledgedLoans();
        y.payIn(0, 100);
        y.payIn(1, 500);
        y.pledge(0, 2, 100);
        y.pledge(1, 0, 500);
        due("pledged shares count for three times", y.borrow(0, 300, 1), 0);
    }

    private static void repay() {
        PledgedLoans x = lent();
        due("a part", x.repay(1, 50), 850);
        due("till", x.count(0), 1468 + 50);
        due("paid", x.memberOf(1, 8), 50);
        due("paid is added up", x.repay(1, 40), 810);
        due("paid", x.memberOf(1, 8), 90);
        due("part stays", x.memberOf(1, 7), 90);
        due("more than the rest", x.repay(1, 811), NONE);
        due("no loan", x.repay(0, 1), NONE);
        due("refused", x.count(9), 2);
        due("whole", x.repay(1, 810), 0);
        due("loans", x.count(4), 0);
        due("part is gone", x.memberOf(1, 7), NONE);
        due("paid is gone", x.memberOf(1, 8), NONE);
        due("misses are gone", x.memberOf(1, 9), NONE);
        due("no loan", x.repay(1, 1), NONE);
        due("surplus stays", x.count(1), 18);
        due("undoable", x.undo(), 5);
        due("undoable", x.undo(), 4);
        due("rest", x.memberOf(1, 6), 810);
        x.repay(1, 810);
        x.borrow(1, 10, 1);
        due("a new loan has nothing paid", x.memberOf(1, 8), 0);
        refusesMembers(x, "repay", m -> x.repay(m, 1));
        refusesAmounts(x, "repay", a -> x.repay(1, a));
        refusesMembers(x, "repay, wrong amount too", m -> x.repay(m, 0));
    }

    private static void week() {
        PledgedLoans x = lent();
        due("nothing due", x.week(), 0);
        due("weeks", x.count(7), 1);
        due("day", x.count(8), 0);
        due("misses", x.memberOf(1, 9), 1);
        x.repay(1, 89);
        x.week();
        due("one too little is a miss", x.memberOf(1, 9), 2);
        due("paid is 0 then", x.memberOf(1, 8), 0);
        x.repay(1, 90);
        x.week();
        due("kept", x.memberOf(1, 9), 0);
        due("paid is 0 then", x.memberOf(1, 8), 0);
        x.week();
        x.week();
        due("third miss", x.week(), 1);
        due("fallen due", x.count(6), 1);
        due("weeks", x.count(7), 6);
        due("loans", x.count(4), 0);
        due("own shares first", x.memberOf(1, 0), 0);
        due("then the first who pledged", x.memberOf(0, 0), 1000 - 221);
        due("pledge of the first", x.pledged(0, 1), 79);
        due("the second keeps all", x.memberOf(2, 0), 800);
        due("till stays", x.count(0), 1468 + 179);
        due("surplus stays", x.count(1), 18);
        due("undoable", x.undo(), 5);
        due("fallen due", x.count(6), 0);
        due("shares", x.memberOf(1, 0), 500);
        manyDue();
        dueSettings();
        weeksEnd();
    }

    private static void manyDue() {
        PledgedLoans x = lent();
        x.set(1, 1);
        x.payIn(4, 40);
        x.pledge(3, 4, 50);
        x.borrow(4, 90, 1);
        x.pledge(0, 3, 100);
        x.payIn(3, 60);
        x.borrow(3, 160, 1);
        due("cover", x.memberOf(3, 3), 160);
        due("three fall due", x.week(), 3);
        due("fallen due", x.count(6), 3);
        due("shares of 0", x.memberOf(0, 0), 1000 - 300 - 100);
        due("shares of 1", x.memberOf(1, 0), 0);
        due("shares of 2", x.memberOf(2, 0), 800 - 100);
        due("pledge of 2 that is left", x.pledged(2, 1), 100);
        due("shares of 3: own 60, then 50 that were pledged", x.memberOf(3, 0), 0);
        due("shares of 4", x.memberOf(4, 0), 0);
        due("pledges are gone", x.count(4) + x.pledged(0, 1) + x.pledged(0, 3) + x.pledged(3, 4), 0);
        PledgedLoans y = union();
        y.set(1, 1);
        y.pledge(1, 0, 500);
        y.borrow(1, 1, 1);
        due("no cover", y.memberOf(1, 3), 0);
        y.borrow(0, 600, 1);
        due("own shares that hold enough", y.week(), 1);
        due("shares", y.memberOf(0, 0), 400);
        due("pledge stays", y.pledged(1, 0), 500);
        PledgedLoans z = union();
        z.set(1, 1);
        z.pledge(0, 2, 900);
        z.pledge(1, 0, 200);
        z.borrow(0, 250, 2);
        z.repay(0, 125);
        due("kept", z.week(), 0);
        due("missed", z.week(), 1);
        due("only what is left of the own shares", z.memberOf(0, 0), 900);
        due("and the pledge", z.memberOf(1, 0), 475);
        due("own pledges stay", z.pledged(0, 2), 900);
    }

    private static void dueSettings() {
        PledgedLoans x = lent();
        x.week();
        x.week();
        due("misses", x.memberOf(1, 9), 2);
        x.set(1, 5);
        due("not yet", x.week(), 0);
        due("misses", x.memberOf(1, 9), 3);
        x.set(1, 2);
        x.repay(1, 90);
        due("kept, however many misses there were", x.week(), 0);
        due("misses", x.memberOf(1, 9), 0);
        x.week();
        x.set(1, 1);
        due("more than the setting tells", x.week(), 1);
        PledgedLoans y = lent();
        y.repay(1, 850);
        y.week();
        due("kept", y.memberOf(1, 9), 0);
        y.repay(1, 49);
        y.week();
        due("missed, though the rest is less than the part", y.memberOf(1, 9), 1);
        y.repay(1, 1);
        y.week();
        due("gone", y.memberOf(1, 9), NONE);
    }

    /** 9999 weeks take more calls than an object is used for; what it answers then is free, but it must not hang. */
    private static void weeksEnd() {
        PledgedLoans x = new PledgedLoans();
        for (int i = 0; i < 9999; i++) {
            x.week();
        }
        due("weeks", x.count(7), 9999);
        refuses(x, "week 10000", STATE, x::week);
        due("an order that would throw is not done", typeAndRun(x, "+0:1;w;+0:1"), 1);
        due("and not counted as refused", x.count(9), 0);
        due("shares", x.memberOf(0, 0), 1);
    }

    private static void pass() {
        PledgedLoans x = union();
        due("pass", x.pass(1), 1);
        due("share days", x.memberOf(0, 5), 1000);
        x.payOut(0, 500);
        due("pass", x.pass(99), 100);
        due("share days", x.memberOf(0, 5), 1000 + 99 * 500);
        due("share days", x.memberOf(3, 5), 5000);
        due("share days", x.memberOf(4, 5), 0);
        due("day", x.count(8), 100);
        due("weeks", x.count(7), 0);
        due("undoable", x.undo(), 5);
        due("day", x.count(8), 1);
        for (int days : new int[] {0, -1, 100, Integer.MIN_VALUE, Integer.MAX_VALUE}) {
            refuses(x, "days " + days, ARGUMENT, () -> x.pass(days));
        }
        PledgedLoans y = new PledgedLoans();
        for (int i = 0; i < 101; i++) {
            y.pass(99);
        }
        due("last day", y.count(8), 9999);
        refuses(y, "a day more", STATE, () -> y.pass(1));
        refuses(y, "wrong days come first", ARGUMENT, () -> y.pass(100));
        y.undo();
        due("day", y.count(8), 9900);
        due("just the last day", y.pass(99), 9999);
        PledgedLoans z = new PledgedLoans();
        for (int i = 0; i < 8; i++) {
            z.payIn(4, 9999);
        }
        z.payIn(4, 8);
        due("shares", z.memberOf(4, 0), 80000);
        for (int i = 0; i < 12; i++) {
            z.pass(99);
        }
        z.pass(61);
        due("share days", z.memberOf(4, 5), 99920000);
        refuses(z, "above the share days", STATE, () -> z.pass(2));
        due("just the share days", z.pass(1), 1250);
        due("share days", z.memberOf(4, 5), 100000000);
        refuses(z, "above the share days", STATE, () -> z.pass(1));
        for (int i = 0; i < 8; i++) {
            z.payOut(4, 9999);
        }
        z.payOut(4, 7);
        refuses(z, "above the share days by one", STATE, () -> z.pass(1));
        z.payOut(4, 1);
        due("without shares", z.pass(1), 1251);
        PledgedLoans first = new PledgedLoans();
        PledgedLoans last = new PledgedLoans();
        for (int i = 0; i < 9; i++) {
            first.payIn(0, 9999);
            last.payIn(5, 9999);
        }
        for (int i = 0; i < 11; i++) {
            first.pass(99);
            last.pass(99);
        }
        refuses(first, "of the first member", STATE, () -> first.pass(99));
        refuses(last, "of the last member", STATE, () -> last.pass(99));
        z.dividend();
        due("share days begin anew", z.pass(1), 1252);
    }

    private static void dividend() {
        PledgedLoans x = lent();
        due("without share days", x.dividend(), NONE);
        due("refused", x.count(9), 1);
        x.pass(3);
        due("all share days", x.memberOf(0, 5) + x.memberOf(1, 5) + x.memberOf(2, 5) + x.memberOf(3, 5), 7050);
        due("shared out", x.dividend(), 7 + 3 + 6);
        due("shares of 0", x.memberOf(0, 0), 1007);
        due("shares of 1", x.memberOf(1, 0), 503);
        due("shares of 2", x.memberOf(2, 0), 806);
        due("shares of 3", x.memberOf(3, 0), 50);
        due("surplus", x.count(1), 2);
        due("till stays", x.count(0), 1468);
        due("paid together", x.count(10), 16);
        due("share days", x.memberOf(0, 5), 0);
        due("again", x.dividend(), NONE);
        x.pass(1);
        due("too little for anyone", x.dividend(), 0);
        due("share days are 0", x.memberOf(0, 5), 0);
        due("not refused", x.count(9), 2);
        due("paid together", x.count(10), 16);
        due("undoable", x.undo(), 5);
        due("share days are back", x.memberOf(0, 5), 1007);
        PledgedLoans y = union();
        y.pass(1);
        due("without a surplus", y.dividend(), 0);
        due("not refused", y.count(9), 0);
        due("share days", y.memberOf(0, 5), 0);
        PledgedLoans one = new PledgedLoans();
        one.payIn(0, 1000);
        one.borrow(0, 1000, 1);
        one.repay(0, 1000);
        one.payOut(0, 999);
        one.pass(1);
        due("one share day", one.ifDivided(0), 20);
        due("one share day", one.dividend(), 20);
        PledgedLoans z = new PledgedLoans();
        z.set(0, 100);
        for (int i = 0; i < 9; i++) {
            z.payIn(0, 9999);
        }
        z.payIn(0, 9);
        z.borrow(0, 9999, 1);
        due("surplus", z.count(1), 999);
        for (int i = 0; i < 11; i++) {
            z.pass(99);
        }
        due("no overflow", z.dividend(), 999);
        due("shares above 90000", z.memberOf(0, 0), 90999);
        due("nothing more is taken in", z.payIn(0, 1), NONE);
    }

    private static void set() {
        PledgedLoans x = new PledgedLoans();
        due("set fee", x.set(0, 100), 20);
        due("set fee", x.set(0, 0), 100);
        due("set misses", x.set(1, 5), 3);
        due("set misses", x.set(1, 1), 5);
        due("fee", x.setting(0), 0);
        due("misses", x.setting(1), 1);
        due("undoable", x.undo(), 3);
        due("misses", x.setting(1), 5);
        x.set(1, 5);
        due("undoable without a change", x.count(11), 4);
        for (int value : new int[] {-1, 101, Integer.MIN_VALUE, Integer.MAX_VALUE}) {
            refuses(x, "fee " + value, ARGUMENT, () -> x.set(0, value));
        }
        for (int value : new int[] {0, -1, 6, 100}) {
            refuses(x, "misses " + value, ARGUMENT, () -> x.set(1, value));
        }
        for (int setting : new int[] {-1, 2, Integer.MAX_VALUE}) {
            refuses(x, "setting " + setting, INDEX, () -> x.set(setting, 1));
            refuses(x, "setting and value", INDEX, () -> x.set(setting, -1));
        }
    }

    private static void append() {
        PledgedLoans x = new PledgedLoans();
        due("lowest", x.append(33), 1);
        due("highest", x.append(126), 2);
        for (int code : new int[] {32, 127, -1, 0, 65536 + 40, Integer.MIN_VALUE}) {
            refuses(x, "code " + code, ARGUMENT, () -> x.append(code));
        }
        for (int length = 3; length <= 60; length++) {
            due("append", x.append('w'), length);
        }
        refuses(x, "full", STATE, () -> x.append('w'));
        refuses(x, "full, wrong code", ARGUMENT, () -> x.append(32));
        due("not undoable", x.count(11), 0);
        due("length", x.clearBuffer(), 60);
        due("append", x.append('w'), 1);
    }

    private static void clearBuffer() {
        PledgedLoans x = new PledgedLoans();
        due("empty", x.clearBuffer(), 0);
        type(x, "abc");
        due("three", x.clearBuffer(), 3);
        due("empty", x.clearBuffer(), 0);
        due("no error", x.firstError(), 0);
        due("not undoable", x.count(11), 0);
    }

    private static void firstError() {
        error("", 0);
        error("w", 1);
        error("w;", 2);
        error(";", 0);
        error("w;;", 2);
        error("ww", 1);
        error("x", 0);
        error("+0:1", 4);
        error("-5:9999", 7);
        error("-5:99990", 7);
        error("+6:1", 1);
        error("+/:1", 1);
        error("+00", 2);
        error("+0;", 2);
        error("+0>1", 2);
        error("+0:0", 3);
        error("+0:01", 3);
        error("+0:;", 3);
        error("+0:1/1", 4);
        error("r0:1/1", 4);
        error("p0:1", 2);
        error("p0>0", 3);
        error("p5>5", 3);
        error("p0>6", 3);
        error("p0>1:20;w", 9);
        error("p0>1/", 4);
        error("p3>2:10000", 9);
        error("b0:1;", 4);
        error("b0:/", 3);
        error("b0:100/", 7);
        error("b0:100/0", 7);
        error("b0:100/52", 9);
        error("b0:100/53", 8);
        error("b0:100/60", 8);
        error("b0:100/9", 8);
        error("b0:100/123", 9);
        error("b0:100/1/", 8);
        error("b0:100/;", 7);
        error("r4:7;+1:2;-1:2;b2:3/4;p1>2:3;w;x", 31);
        error("W", 0);
        error("w~", 1);
        error("!", 0);
    }

    private static void run() {
        PledgedLoans x = new PledgedLoans();
        due("orders", typeAndRun(x, "+0:1000;+1:500;-0:100;p0>1:200;b1:700/7;r1:50;w"), 7);
        due("buffer", x.clearBuffer(), 0);
        due("one saved state", x.count(11), 1);
        due("shares", x.memberOf(0, 0), 900);
        due("pledged", x.pledged(0, 1), 200);
        due("rest", x.memberOf(1, 6), 650);
        due("part", x.memberOf(1, 7), 100);
        due("misses", x.memberOf(1, 9), 1);
        due("weeks", x.count(7), 1);
        due("surplus", x.count(1), 14);
        due("undo", x.undo(), 0);
        due("all is undone", x.count(0) + x.count(7) + x.count(5), 0);
        stops("-0:1", "pay out");
        stops("p0>1:2000", "pledge");
        stops("b0:1/1", "borrow without shares");
        stops("r0:1", "repay");
        PledgedLoans y = new PledgedLoans();
        for (int i = 0; i < 9; i++) {
            y.payIn(2, 9999);
        }
        due("pay in", typeAndRun(y, "w;+2:10;w"), 1);
        due("refused", y.count(9), 1);
        due("weeks", y.count(7), 1);
        for (String text : new String[] {"", "w;", "+0", "+0:", "b0:10", "b0:10/", "p0>1:", "w;x", "+0:1;w;;"}) {
            y.clearBuffer();
            type(y, text);
            refuses(y, "text " + text, ARGUMENT, y::run);
            due("buffer stays", y.clearBuffer(), text.length());
        }
        y.undo();
        due("undo of run", y.count(7) + y.count(9), 0);
        PledgedLoans z = new PledgedLoans();
        due("sixty signs", typeAndRun(z, "w;w;w;w;w;w;w;w;w;w;w;w;w;w;w;w;w;w;w;w;w;w;w;w;w;w;w;w;+0:1"), 29);
        due("weeks", z.count(7), 28);
        due("the last digits", typeAndRun(z, "+5:9999;-5:9998;p5>4:1"), 3);
        due("pledged", z.pledged(5, 4), 1);
        due("b with 52", typeAndRun(z, "+1:104;b1:104/52"), 2);
        due("part", z.memberOf(1, 7), 2);
        z.append('w');
        z.undo();
        due("the buffer is not undone", z.clearBuffer(), 1);
    }

    /** An order that is refused at once, with one before and one behind it. */
    private static void stops(String order, String what) {
        PledgedLoans x = new PledgedLoans();
        due(what, typeAndRun(x, "w;" + order + ";w"), 1);
        due(what + " is counted", x.count(9), 1);
        due(what + " ends it", x.count(7), 1);
        due(what + " alone", typeAndRun(x, order), 0);
        due(what + " is counted", x.count(9), 2);
        due("buffer", x.clearBuffer(), 0);
        due("saved states", x.count(11), 2);
    }

    private static void keep() {
        PledgedLoans x = lent();
        due("one loan", x.keep(0), 1);
        due("not undoable", x.count(11), 6);
        x.borrow(0, 100, 1);
        due("two loans", x.keep(1), 2);
        due("goBack 0", x.goBack(0), 1);
        due("goBack 1", x.goBack(1), 2);
        x.repay(0, 100);
        x.repay(1, 900);
        due("in place of the other", x.keep(1), 0);
        x.goBack(0);
        due("goBack 1", x.goBack(1), 0);
        x.undo();
        x.undo();
        due("slots are not undone", x.goBack(0), 1);
        for (int slot : new int[] {-1, 2, Integer.MAX_VALUE}) {
            refuses(x, "slot " + slot, ARGUMENT, () -> x.keep(slot));
        }
    }

    private static void goBack() {
        PledgedLoans x = lent();
        x.pass(2);
        x.set(0, 7);
        x.keep(0);
        type(x, "w;");
        long before = x.digest();
        x.payIn(0, 1);
        x.payOut(0, 2000);
        x.set(0, 8);
        x.set(1, 4);
        x.week();
        x.pass(5);
        x.repay(1, 900);
        x.unpledge(0, 1, 300);
        due("goBack", x.goBack(0), 1);
        due("all is back", x.digest(), before);
        due("counts too", x.count(9) + x.count(7), 0);
        due("day", x.count(8), 2);
        due("undoable", x.undo(), 5);
        due("undone", x.memberOf(1, 6), 0);
        due("refused", x.count(9), 1);
        due("misses", x.setting(1), 4);
        due("it stays", x.goBack(0), 1);
        x.payIn(3, 9);
        x.goBack(0);
        due("it is not changed by what follows", x.memberOf(3, 0), 50);
        due("buffer stays", x.clearBuffer(), 2);
        refuses(x, "empty slot", STATE, () -> x.goBack(1));
        for (int slot : new int[] {-1, 2, Integer.MIN_VALUE}) {
            refuses(x, "slot " + slot, ARGUMENT, () -> x.goBack(slot));
        }
    }

    private static void undo() {
        undoesEach();
        PledgedLoans x = new PledgedLoans();
        for (int i = 0; i < 9; i++) {
            x.payIn(i % 6, 10 + i);
            due("saved", x.count(11), Math.min(6, i + 1));
        }
        for (int left = 5; left >= 0; left--) {
            due("undo", x.undo(), left);
            due("shares", x.count(2), sumTo(3 + left));
        }
        refuses(x, "none is left", STATE, x::undo);
        PledgedLoans y = new PledgedLoans();
        y.payOut(0, 1);
        y.repay(0, 1);
        y.dividend();
        y.borrow(0, 1, 1);
        y.pledge(0, 1, 1);
        y.unpledge(0, 1, 1);
        due("refused", y.count(9), 6);
        for (int left = 5; left >= 0; left--) {
            due("undo", y.undo(), left);
            due("refused", y.count(9), left);
        }
        due("as at first", y.digest(), new PledgedLoans().digest());
        y.payIn(0, 1);
        y.keep(0);
        y.undo();
        due("undo is not undoable", y.count(11), 0);
        due("the slot stays", y.goBack(0), 0);
        due("shares", y.memberOf(0, 0), 1);
    }

    private static void undoesEach() {
        PledgedLoans x = lent();
        x.set(1, 1);
        x.pass(9);
        x.keep(0);
        x.payIn(5, 17);
        x.pass(2);
        undoes(x, "payIn", () -> x.payIn(0, 5));
        undoes(x, "payOut", () -> x.payOut(0, 5));
        undoes(x, "pledge", () -> x.pledge(0, 4, 5));
        undoes(x, "unpledge", () -> x.unpledge(0, 1, 5));
        undoes(x, "borrow", () -> x.borrow(0, 100, 2));
        undoes(x, "repay", () -> x.repay(1, 100));
        undoes(x, "repay all", () -> x.repay(1, 900));
        undoes(x, "week", () -> x.week());
        undoes(x, "pass", () -> x.pass(3));
        undoes(x, "dividend", () -> x.dividend());
        undoes(x, "set", () -> x.set(0, 3));
        undoes(x, "goBack", () -> x.goBack(0));
        type(x, "w;+0:3;r5:2;w");
        undoes(x, "run", () -> x.run());
        undoes(x, "payOut, refused", () -> x.payOut(4, 5));
        undoes(x, "pledge, refused", () -> x.pledge(4, 1, 5));
        undoes(x, "unpledge, refused", () -> x.unpledge(4, 1, 5));
        undoes(x, "borrow, refused", () -> x.borrow(4, 100, 2));
        undoes(x, "repay, refused", () -> x.repay(4, 100));
        x.dividend();
        x.pass(1);
        x.dividend();
        undoes(x, "dividend, refused", () -> x.dividend());
        undoes(x, "goBack, from other numbers", () -> x.goBack(0));
    }

    /** What the first calls of undo() pay in together. */
    private static int sumTo(int calls) {
        int sum = 0;
        for (int i = 0; i < calls; i++) {
            sum += 10 + i;
        }
        return sum;
    }

    private static void memberOf() {
        PledgedLoans x = lent();
        x.pledge(1, 0, 40);
        x.pass(2);
        x.week();
        x.repay(1, 10);
        int[] one = {500, 40, 500, 960, 70, 1000, 890, 90, 10, 1};
        int[] zero = {1000, 300, 40, 740, 700, 2000, 0, NONE, NONE, NONE};
        for (int what = 0; what < 10; what++) {
            due("memberOf(1, " + what + ")", x.memberOf(1, what), one[what]);
            due("memberOf(0, " + what + ")", x.memberOf(0, what), zero[what]);
        }
        x.repay(1, 400);
        due("the rest is held by pledges of others", x.memberOf(1, 4), 460);
        due("not undoable", x.count(11), 6);
        due("nothing is added", x.memberOf(0, 0), 1000);
        refusesMembers(x, "memberOf", m -> x.memberOf(m, 0));
        refusesMembers(x, "memberOf, wrong what too", m -> x.memberOf(m, 10));
        for (int what : new int[] {-1, 10, Integer.MAX_VALUE, Integer.MIN_VALUE}) {
            refuses(x, "what " + what, ARGUMENT, () -> x.memberOf(0, what));
        }
    }

    private static void pledged() {
        PledgedLoans x = lent();
        x.pledge(0, 5, 7);
        due("pledged", x.pledged(0, 1), 300);
        due("pledged", x.pledged(2, 1), 200);
        due("pledged", x.pledged(0, 5), 7);
        due("the other way", x.pledged(1, 0), 0);
        due("the same", x.pledged(1, 1), 0);
        refusesMembers(x, "pledged", m -> x.pledged(m, 0));
        refusesMembers(x, "pledged", m -> x.pledged(0, m));
        refusesMembers(x, "pledged", m -> x.pledged(m, m));
    }

    private static void count() {
        PledgedLoans x = lent();
        x.borrow(3, 50, 1);
        x.pass(4);
        x.payOut(4, 1);
        x.week();
        x.week();
        x.week();
        x.borrow(0, 200, 2);
        x.dividend();
        int[] want = {2350 - 882 - 49 - 196, 23, 2350 - 950, 200, 1, 3, 2, 3, 4, 1, 0, 6};
        int dividend = x.count(10);
        want[1] -= dividend;
        want[2] += dividend;
        want[10] = 9 + 4 + 7;
        for (int what = 0; what < 12; what++) {
            due("count(" + what + ")", x.count(what), want[what]);
        }
        for (int what : new int[] {-1, 12, Integer.MAX_VALUE, Integer.MIN_VALUE}) {
            refuses(x, "what " + what, ARGUMENT, () -> x.count(what));
        }
    }

    private static void setting() {
        PledgedLoans x = new PledgedLoans();
        x.set(0, 55);
        due("setting", x.setting(0), 55);
        due("setting", x.setting(1), 3);
        for (int setting : new int[] {-1, 2, Integer.MAX_VALUE}) {
            refuses(x, "setting " + setting, INDEX, () -> x.setting(setting));
        }
    }

    private static void whyNot() {
        PledgedLoans x = lent();
        long before = x.digest();
        due("a loan", x.whyNot(1, 1), 1);
        due("three times", x.whyNot(3, 151), 2);
        due("cover", x.whyNot(3, 150), 3);
        due("given", x.whyNot(3, 50), 0);
        due("nothing is changed", x.digest(), before);
        due("without shares", x.whyNot(4, 1), 2);
        refusesMembers(x, "whyNot", m -> x.whyNot(m, 1));
        refusesMembers(x, "whyNot, wrong amount too", m -> x.whyNot(m, 0));
        refusesAmounts(x, "whyNot", a -> x.whyNot(0, a));
    }

    private static void great(PledgedLoans x, int member, int want) {
        due("greatest by halving", x.greatest(member, 0), want);
        due("greatest by all", x.greatest(member, 1), want);
    }

    private static void greatest() {
        PledgedLoans x = lent();
        great(x, 0, 700);
        great(x, 1, 0);
        great(x, 2, 600);
        great(x, 3, 50);
        great(x, 4, 0);
        PledgedLoans y = new PledgedLoans();
        y.payIn(0, 9999);
        great(y, 0, 9999);
        y.payIn(0, 9999);
        great(y, 0, 9999);
        y.payIn(1, 1);
        great(y, 1, 1);
        y.pledge(0, 1, 9999);
        great(y, 1, 3);
        y.payIn(1, 8191);
        great(y, 1, 9999);
        y.payOut(1, 1);
        y.unpledge(0, 1, 9999);
        great(y, 1, 8191);
        long before = y.digest();
        y.greatest(0, 0);
        due("nothing is changed", y.digest(), before);
        refusesMembers(x, "greatest", m -> x.greatest(m, 0));
        refusesMembers(x, "greatest, wrong what too", m -> x.greatest(m, 2));
        for (int what : new int[] {-1, 2, Integer.MAX_VALUE}) {
            refuses(x, "what " + what, ARGUMENT, () -> x.greatest(0, what));
        }
    }

    private static void few(PledgedLoans x, int member, int amount, int want) {
        due("guarantors by the greatest", x.guarantors(member, amount, 0), want);
        due("guarantors by sets", x.guarantors(member, amount, 1), want);
    }

    private static void guarantors() {
        PledgedLoans x = union();
        few(x, 3, 50, 0);
        few(x, 3, 51, 1);
        few(x, 3, 1050, 1);
        few(x, 3, 1051, 2);
        few(x, 3, 1850, 2);
        few(x, 3, 1851, 3);
        few(x, 3, 2350, 3);
        few(x, 3, 2351, NONE);
        few(x, 0, 1801, 2);
        few(x, 5, 1, 1);
        few(x, 5, 2301, 4);
        x.payIn(4, 3);
        few(x, 5, 2353, 5);
        few(x, 5, 2354, NONE);
        PledgedLoans y = lent();
        few(y, 1, 1000, 0);
        few(y, 1, 1001, 1);
        few(y, 1, 1701, 2);
        few(y, 3, 750, 1);
        few(y, 3, 751, 2);
        few(y, 3, 1350, 2);
        few(y, 3, 1450, 3);
        few(y, 3, 1451, NONE);
        few(new PledgedLoans(), 0, 1, NONE);
        long before = y.digest();
        y.guarantors(3, 1450, 1);
        due("nothing is changed", y.digest(), before);
        refusesMembers(x, "guarantors", m -> x.guarantors(m, 1, 0));
        refusesMembers(x, "guarantors, wrong amount too", m -> x.guarantors(m, 0, 2));
        refusesAmounts(x, "guarantors", a -> x.guarantors(0, a, 0));
        for (int what : new int[] {-1, 2, Integer.MIN_VALUE}) {
            refuses(x, "what " + what, ARGUMENT, () -> x.guarantors(0, 1, what));
        }
    }

    private static void lasts(PledgedLoans x, int member, int want) {
        due("weeksLeft by weeks", x.weeksLeft(member, 0), want);
        due("weeksLeft at once", x.weeksLeft(member, 1), want);
    }

    private static void weeksLeft() {
        PledgedLoans x = lent();
        lasts(x, 0, 0);
        lasts(x, 1, 10);
        x.repay(1, 89);
        lasts(x, 1, 10);
        x.repay(1, 1);
        lasts(x, 1, 9);
        x.repay(1, 809);
        lasts(x, 1, 1);
        x.repay(1, 1);
        lasts(x, 1, 0);
        x.borrow(0, 100, 52);
        due("part", x.memberOf(0, 7), 2);
        lasts(x, 0, 50);
        x.borrow(3, 1, 52);
        lasts(x, 3, 1);
        refusesMembers(x, "weeksLeft", m -> x.weeksLeft(m, 0));
        refusesMembers(x, "weeksLeft, wrong what too", m -> x.weeksLeft(m, 2));
        for (int what : new int[] {-1, 2}) {
            refuses(x, "what " + what, ARGUMENT, () -> x.weeksLeft(0, what));
        }
    }

    private static void ifDivided() {
        PledgedLoans x = lent();
        due("without share days", x.ifDivided(0), 0);
        x.pass(3);
        int[] want = {7, 3, 6, 0, 0, 0};
        for (int member = 0; member < 6; member++) {
            due("ifDivided(" + member + ")", x.ifDivided(member), want[member]);
        }
        due("nothing is changed", x.count(1), 18);
        x.dividend();
        due("after it", x.ifDivided(0), 0);
        refusesMembers(x, "ifDivided", x::ifDivided);
    }

    private static void riskiest() {
        PledgedLoans x = union();
        due("without loans", x.riskiest(), NONE);
        x.borrow(0, 900, 9);
        due("held by own shares", x.riskiest(), NONE);
        x.pledge(0, 5, 100);
        due("just held by own shares", x.riskiest(), NONE);
        x.undo();
        x.undo();
        x.pledge(0, 3, 100);
        x.borrow(3, 150, 3);
        due("100 at stake", x.riskiest(), 3);
        x.pledge(0, 1, 100);
        x.borrow(1, 600, 3);
        due("as much, the lowest", x.riskiest(), 1);
        x.repay(1, 1);
        due("less", x.riskiest(), 3);
        x.repay(3, 100);
        due("less", x.riskiest(), 1);
        x.repay(1, 99);
        due("nothing at stake", x.riskiest(), NONE);
        PledgedLoans y = lent();
        due("pledging takes off what is left", y.riskiest(), 1);
        y.pledge(1, 0, 100);
        y.pledge(2, 3, 100);
        y.pledge(2, 3, 349);
        y.borrow(3, 150, 1);
        due("500 against 100", y.riskiest(), 1);
        PledgedLoans z = new PledgedLoans();
        z.payIn(0, 10);
        z.payIn(1, 10);
        z.pledge(1, 0, 10);
        z.borrow(0, 10, 1);
        due("all held", z.riskiest(), NONE);
        z.pledge(0, 2, 1);
        due("one at stake", z.riskiest(), 0);
    }

    private static void lentShare() {
        PledgedLoans x = new PledgedLoans();
        due("without shares", x.lentShare(), 0.0);
        x.payIn(0, 300);
        due("nothing lent", x.lentShare(), 0.0);
        x.borrow(0, 100, 1);
        due("a third", x.lentShare(), 100.0 / 300.0);
        x.payIn(1, 47);
        due("of all", x.lentShare(), 100.0 / 347.0);
        x.borrow(1, 47, 1);
        due("of all", x.lentShare(), 147.0 / 347.0);
        PledgedLoans y = new PledgedLoans();
        y.payIn(0, 1);
        y.borrow(0, 1, 1);
        due("all of one share", y.lentShare(), 1.0);
        y.payIn(0, 9);
        y.repay(0, 1);
        y.borrow(0, 10, 1);
        due("all", y.lentShare(), 1.0);
        y.set(1, 1);
        y.week();
        due("no shares are left", y.lentShare(), 0.0);
    }

    private static void digest() {
        PledgedLoans x = new PledgedLoans();
        due("new", x.digest(), digestByTheFace(x, 0, ""));
        due("again", x.digest(), digestByTheFace(x, 0, ""));
        PledgedLoans y = lent();
        due("lent", y.digest(), digestByTheFace(y, 0, ""));
        y.keep(1);
        y.pass(7);
        type(y, "w;~!");
        due("slot 1", y.digest(), digestByTheFace(y, 1, "w;~!"));
        y.keep(0);
        due("slots", y.digest(), digestByTheFace(y, 31 + 1, "w;~!"));
        PledgedLoans z = lent();
        z.keep(0);
        due("slot 0", z.digest(), digestByTheFace(z, 31, ""));
        for (int shares = 1; shares < 300; shares++) {
            PledgedLoans w = new PledgedLoans();
            w.payIn(0, shares);
            w.borrow(0, shares / 3 + 1, 1);
            due("bits of " + w.lentShare(), w.digest(), digestByTheFace(w, 0, ""));
        }
        PledgedLoans w = new PledgedLoans();
        for (int i = 0; i < 54; i++) {
            w.payIn(i % 6, 9999);
        }
        w.borrow(0, 1, 1);
        due("bits of " + w.lentShare(), w.digest(), digestByTheFace(w, 0, ""));
    }

    /** The document's list, value by value; slots is 31 times what slot 0 tells and what slot 1 tells. */
    private static long digestByTheFace(PledgedLoans x, int slots, String text) {
        long hash = 3607;
        for (int what = 0; what < 12; what++) {
            hash = 31 * hash + x.count(what);
        }
        hash = 31 * hash + x.setting(0);
        hash = 31 * hash + x.setting(1);
        for (int member = 0; member < 6; member++) {
            for (int what = 0; what < 10; what++) {
                hash = 31 * hash + x.memberOf(member, what);
            }
            for (int other = 0; other < 6; other++) {
                hash = 31 * hash + x.pledged(member, other);
            }
            hash = 31 * hash + x.greatest(member, 0);
            hash = 31 * hash + x.greatest(member, 1);
            hash = 31 * hash + x.guarantors(member, 500, 0);
            hash = 31 * hash + x.guarantors(member, 500, 1);
            hash = 31 * hash + x.guarantors(member, 5000, 0);
            hash = 31 * hash + x.guarantors(member, 5000, 1);
            hash = 31 * hash + x.weeksLeft(member, 0);
            hash = 31 * hash + x.weeksLeft(member, 1);
            hash = 31 * hash + x.ifDivided(member);
        }
        hash = 31 * hash + x.riskiest();
        hash = 31 * hash + Double.doubleToLongBits(x.lentShare());
        hash = 31 * 31 * hash + slots;
        hash = 31 * hash + text.length();
        for (int i = 0; i < text.length(); i++) {
            hash = 31 * hash + text.charAt(i);
        }
        return hash;
    }
}
