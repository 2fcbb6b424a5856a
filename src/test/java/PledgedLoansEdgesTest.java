import java.io.IOException;

/** Each sentence of the document's promises 1 to 30 at its edges: too small, too large, empty, full, refused. */
public final class PledgedLoansEdgesTest extends Sentences {
    public static void main(String[] args) throws IOException {
        readDocument();
        newObject();
        payIn();
        payOut();
        pledge();
        unpledge();
        borrow();
        repay();
        week();
        pass();
        passThrows();
        dividend();
        set();
        append();
        clearBuffer();
        firstError();
        run();
        runStops();
        keep();
        goBack();
        undo();
        memberOf();
        properties();
        pledged();
        count();
        counts();
        setting();
        whyNot();
        greatest();
        guarantors();
        weeksLeft();
        ifDivided();
        riskiest();
        lentShare();
        digest();
        finish(false);
    }

    private static void newObject() {
        says(1, "Creates a union of members without shares, with empty slots and an empty buffer.");
        PledgedLoans x = new PledgedLoans();
        for (int member = 0; member < 6; member++) {
            due("shares of " + member, x.memberOf(member, 0), 0);
        }
        for (int what = 0; what < 12; what++) {
            due("count(" + what + ")", x.count(what), 0);
        }
        dueThrows(x, STATE, "goBack(0)", () -> x.goBack(0));
        dueThrows(x, STATE, "goBack(1)", () -> x.goBack(1));
        dueThrows(x, STATE, "undo()", x::undo);
        due("firstError()", x.firstError(), 0);
        dueThrows(x, ARGUMENT, "run()", x::run);
        due("clearBuffer()", x.clearBuffer(), 0);
    }

    // ---- shares, pledges

    private static void payIn() {
        says(2, "Pays shares in.");
        PledgedLoans x = new PledgedLoans();
        x.payIn(0, 1);
        due("shares", x.memberOf(0, 0), 1);
        due("till", x.count(0), 1);

        says(2, "Undoable, also if it is refused.");
        PledgedLoans full = union(0, 90000);
        dueUndoable(full, "payIn", () -> full.payIn(0, 5));
        dueUndoable(full, "payIn, refused", () -> full.payIn(1, 5));

        says(2, "`member`: 0 to 5");
        due("payIn(0, 4)", x.payIn(0, 4), 5);
        due("payIn(5, 4)", x.payIn(5, 4), 4);

        says(2, "`amount`: 1 to 9999");
        due("payIn(1, 1)", x.payIn(1, 1), 1);
        due("payIn(1, 9999)", x.payIn(1, 9999), 10000);

        says(2, "Returns the member's shares then; NONE if it is refused, as these would be above 90000.");
        PledgedLoans y = union(89990);
        due("above 90000 by 1", y.payIn(0, 11), NONE);
        due("refused", y.count(9), 1);
        due("shares", y.memberOf(0, 0), 89990);
        due("till", y.count(0), 89990);
        due("just 90000", y.payIn(0, 10), 90000);
        due("above 90000", y.payIn(0, 1), NONE);
        due("another's shares do not count", y.payIn(1, 1), 1);
        due("refused", y.count(9), 2);

        says(2, "Throws `IndexOutOfBoundsException` if there is no such member");
        dueThrowsForMembers(x, "payIn", m -> x.payIn(m, 1));
        dueThrowsForMembers(x, "payIn, with a wrong amount", m -> x.payIn(m, 0));

        says(2, "Throws `IllegalArgumentException` if amount is out of range");
        dueThrowsForAmounts(x, "payIn", a -> x.payIn(0, a));
        dueThrowsForAmounts(full, "payIn to full shares", a -> full.payIn(1, a));
    }

    private static void payOut() {
        says(3, "Pays shares out.");
        PledgedLoans x = union(10000, 5, 5, 5, 5, 10);
        x.payOut(5, 3);
        due("shares", x.memberOf(5, 0), 7);
        due("till", x.count(0), 10027);

        says(3, "Undoable, also if it is refused.");
        dueUndoable(x, "payOut", () -> x.payOut(0, 5));
        dueUndoable(x, "payOut, refused", () -> x.payOut(1, 6));

        says(3, "`member`: 0 to 5");
        due("payOut(0, 1)", x.payOut(0, 1), 0);
        due("payOut(5, 1)", x.payOut(5, 1), 0);

        says(3, "`amount`: 1 to 9999");
        due("payOut(5, 1)", x.payOut(5, 1), 0);
        due("payOut(0, 9999)", x.payOut(0, 9999), 0);
        due("shares", x.memberOf(0, 0), 0);

        says(3, "Returns 0 if it is done; otherwise the first reason: 1: it is more than is free of the member's "
            + "shares; 2: the till has less.");
        PledgedLoans y = union(100);
        due("more than there is", y.payOut(0, 101), 1);
        due("all", y.payOut(0, 100), 0);
        due("of nothing", y.payOut(0, 1), 1);
        y.payIn(0, 100);
        y.pledge(0, 1, 40);
        due("what is pledged is not free", y.payOut(0, 61), 1);
        due("what is not pledged", y.payOut(0, 60), 0);
        due("refused", y.count(9), 3);
        PledgedLoans z = lent(120, 50);
        due("free of one with a loan", z.payOut(0, 31), 1);
        due("free of one with a loan", z.payOut(0, 30), 0);
        PledgedLoans v = union(100);
        force(v, "till", 59);
        due("the till has less by 1", v.payOut(0, 60), 2);
        due("1 comes before 2", v.payOut(0, 101), 1);
        due("refused", v.count(9), 2);
        due("shares", v.memberOf(0, 0), 100);
        due("just the till", v.payOut(0, 59), 0);
        due("till", v.count(0), 0);

        says(3, "Throws `IndexOutOfBoundsException` if there is no such member");
        dueThrowsForMembers(x, "payOut", m -> x.payOut(m, 1));
        dueThrowsForMembers(x, "payOut, with a wrong amount", m -> x.payOut(m, 10000));

        says(3, "Throws `IllegalArgumentException` if amount is out of range");
        dueThrowsForAmounts(x, "payOut", a -> x.payOut(0, a));
    }

    private static void pledge() {
        says(4, "Pledges shares.");
        PledgedLoans x = union(20000, 5, 5, 5, 5, 100);
        x.pledge(0, 1, 7);
        due("pledged", x.pledged(0, 1), 7);
        due("shares stay", x.memberOf(0, 0), 20000);
        due("the till stays", x.count(0), 20120);

        says(4, "Undoable, also if it is refused.");
        dueUndoable(x, "pledge", () -> x.pledge(0, 5, 3));
        dueUndoable(x, "pledge, refused", () -> x.pledge(1, 5, 6));

        says(4, "`member`: 0 to 5: who pledges");
        due("pledge(0, 5, 1)", x.pledge(0, 5, 1), 1);
        due("pledge(5, 0, 1)", x.pledge(5, 0, 1), 1);

        says(4, "`borrower`: another member, for whom");
        due("pledge(0, 4, 2)", x.pledge(0, 4, 2), 2);
        due("for 4", x.memberOf(4, 2), 2);
        due("for 0", x.memberOf(0, 2), 1);

        says(4, "`amount`: 1 to 9999");
        due("pledge(0, 3, 1)", x.pledge(0, 3, 1), 1);
        due("pledge(0, 3, 9999)", x.pledge(0, 3, 9999), 10000);

        says(4, "Returns what is pledged by the one for the other one then; NONE if it is refused, as it is more than "
            + "is free of the shares of the one who pledges.");
        PledgedLoans y = union(100, 100);
        due("more than is free", y.pledge(0, 1, 101), NONE);
        due("refused", y.count(9), 1);
        due("a part", y.pledge(0, 1, 60), 60);
        due("more than is free then", y.pledge(0, 2, 41), NONE);
        due("all that is free", y.pledge(0, 1, 40), 100);
        due("nothing is free", y.pledge(0, 2, 1), NONE);
        due("what others pledge is not free", y.pledge(1, 0, 100), 100);
        due("nothing is free still", y.pledge(0, 2, 1), NONE);
        due("without shares", y.pledge(2, 0, 1), NONE);
        due("refused", y.count(9), 5);
        PledgedLoans z = lent(120, 50);
        due("free of one with a loan", z.pledge(0, 5, 31), NONE);
        due("free of one with a loan", z.pledge(0, 5, 30), 30);

        says(4, "Throws `IndexOutOfBoundsException` if there is no such member");
        dueThrowsForMembers(x, "pledge", m -> x.pledge(m, 1, 1));
        dueThrowsForMembers(x, "pledge for one", m -> x.pledge(0, m, 1));
        dueThrowsForMembers(x, "pledge for the same", m -> x.pledge(m, m, 0));

        says(4, "Throws `IllegalArgumentException` if both are the same, or amount is out of range");
        for (int member = 0; member < 6; member++) {
            int same = member;
            dueThrows(x, ARGUMENT, "pledge for oneself", () -> x.pledge(same, same, 1));
        }
        dueThrowsForAmounts(x, "pledge", a -> x.pledge(0, 1, a));
    }

    private static void unpledge() {
        says(5, "Takes a pledge back, or a part of it.");
        PledgedLoans x = union(20000, 5, 5, 5, 5, 100);
        x.pledge(0, 1, 7);
        x.unpledge(0, 1, 6);
        due("a part of it", x.pledged(0, 1), 1);
        x.unpledge(0, 1, 1);
        due("all", x.pledged(0, 1), 0);
        due("free again", x.memberOf(0, 4), 20000);

        says(5, "Undoable, also if it is refused.");
        x.pledge(0, 3, 9999);
        x.pledge(0, 3, 1);
        dueUndoable(x, "unpledge", () -> x.unpledge(0, 3, 8));
        dueUndoable(x, "unpledge, refused", () -> x.unpledge(3, 0, 1));

        says(5, "`member`: 0 to 5: who pledged");
        x.pledge(0, 5, 3);
        x.pledge(5, 0, 3);
        due("unpledge(0, 5, 1)", x.unpledge(0, 5, 1), 0);
        due("unpledge(5, 0, 2)", x.unpledge(5, 0, 2), 0);

        says(5, "`borrower`: another member, for whom");
        due("pledged by 0 for 5", x.pledged(0, 5), 2);
        due("pledged by 5 for 0", x.pledged(5, 0), 1);

        says(5, "`amount`: 1 to 9999");
        due("unpledge(0, 3, 9999)", x.unpledge(0, 3, 9999), 0);
        due("unpledge(0, 3, 1)", x.unpledge(0, 3, 1), 0);

        says(5, "Returns 0 if it is done; otherwise the first reason: 1: so much is not pledged; 2: the cover of the "
            + "borrower would be less than the rest of the borrower's loan.");
        PledgedLoans y = lent(120, 50);
        due("more than is pledged", y.unpledge(1, 0, 51), 1);
        due("pledged by nobody", y.unpledge(2, 0, 1), 1);
        due("the cover would be less by 1", y.unpledge(1, 0, 31), 2);
        due("refused", y.count(9), 3);
        due("pledged", y.pledged(1, 0), 50);
        due("the cover is just the rest", y.unpledge(1, 0, 30), 0);
        due("cover", y.memberOf(0, 3), 120);
        due("one more", y.unpledge(1, 0, 1), 2);
        due("1 comes before 2", y.unpledge(1, 0, 21), 1);
        y.repay(0, 120);
        due("without a loan", y.unpledge(1, 0, 20), 0);
        due("nothing is pledged", y.unpledge(1, 0, 1), 1);

        says(5, "Throws `IndexOutOfBoundsException` if there is no such member");
        dueThrowsForMembers(x, "unpledge", m -> x.unpledge(m, 1, 1));
        dueThrowsForMembers(x, "unpledge for one", m -> x.unpledge(0, m, 1));
        dueThrowsForMembers(x, "unpledge for the same", m -> x.unpledge(m, m, 0));

        says(5, "Throws `IllegalArgumentException` if both are the same, or amount is out of range");
        for (int member = 0; member < 6; member++) {
            int same = member;
            dueThrows(x, ARGUMENT, "unpledge for oneself", () -> x.unpledge(same, same, 1));
        }
        dueThrowsForAmounts(x, "unpledge", a -> x.unpledge(0, 1, a));
    }

    // ---- loans

    private static void borrow() {
        says(6, "Gives a loan.");
        PledgedLoans x = union(9999, 10, 10, 10, 10, 10);
        x.borrow(1, 10, 3);
        due("loans", x.count(4), 1);
        due("given so far", x.count(5), 1);
        due("rest", x.memberOf(1, 6), 10);

        says(6, "Undoable, also if it is refused.");
        dueUndoable(x, "borrow", () -> x.borrow(2, 10, 3));
        dueUndoable(x, "borrow, refused", () -> x.borrow(1, 1, 3));

        says(6, "`member`: 0 to 5");
        due("borrow(5, 10, 1)", x.borrow(5, 10, 1), 0);
        due("borrow(0, 1, 1)", x.borrow(0, 1, 1), 0);

        says(6, "`amount`: 1 to 9999");
        x.repay(0, 1);
        due("borrow(0, 9999, 1)", x.borrow(0, 9999, 1), 0);
        due("borrow(2, 1, 1)", x.borrow(2, 1, 1), 0);

        says(6, "`weeks`: 1 to 52");
        due("part over 1 week", x.memberOf(0, 7), 9999);
        due("borrow(3, 10, 52)", x.borrow(3, 10, 52), 0);
        due("part over 52 weeks", x.memberOf(3, 7), 1);

        says(6, "Returns 0 if it is given, otherwise the reason.");
        PledgedLoans y = union(100);
        due("2", y.borrow(0, 301, 1), 2);
        due("3", y.borrow(0, 101, 1), 3);
        due("given so far", y.count(5), 0);
        due("0", y.borrow(0, 100, 1), 0);
        due("1", y.borrow(0, 1, 1), 1);
        due("refused", y.count(9), 3);
        due("till", y.count(0), 2);
        PledgedLoans z = union(100);
        force(z, "till", 97);
        due("4", z.borrow(0, 100, 1), 4);

        says(6, "Throws `IndexOutOfBoundsException` if there is no such member");
        dueThrowsForMembers(x, "borrow", m -> x.borrow(m, 1, 1));
        dueThrowsForMembers(x, "borrow, with wrong weeks", m -> x.borrow(m, 1, 0));

        says(6, "Throws `IllegalArgumentException` if amount or weeks is out of range");
        dueThrowsForAmounts(x, "borrow", a -> x.borrow(4, a, 1));
        dueThrowsForOthers(x, ARGUMENT, "borrow over weeks", 1, 52, w -> x.borrow(4, 1, w));
        dueThrowsForOthers(x, ARGUMENT, "borrow by one with a loan, over weeks", 1, 52, w -> x.borrow(0, 1, w));
    }

    private static void repay() {
        says(7, "Pays a loan back, or a part of it.");
        PledgedLoans x = union(9999, 10, 10, 10, 10, 10);
        x.borrow(5, 10, 2);
        x.repay(5, 9);
        due("rest by a part of it", x.memberOf(5, 6), 1);
        due("paid in this week", x.memberOf(5, 8), 9);
        x.repay(5, 1);
        due("loans by all", x.count(4), 0);

        says(7, "Undoable, also if it is refused.");
        x.borrow(5, 10, 2);
        dueUndoable(x, "repay", () -> x.repay(5, 3));
        dueUndoable(x, "repay of all", () -> x.repay(5, 10));
        dueUndoable(x, "repay, refused", () -> x.repay(5, 11));
        dueUndoable(x, "repay without a loan", () -> x.repay(4, 1));

        says(7, "`member`: 0 to 5");
        x.borrow(0, 9999, 1);
        due("repay(5, 2)", x.repay(5, 2), 8);
        due("repay(0, 1)", x.repay(0, 1), 9998);

        says(7, "`amount`: 1 to 9999");
        x.repay(0, 9998);
        x.borrow(0, 9999, 1);
        due("repay(5, 1)", x.repay(5, 1), 7);
        due("repay(0, 9999)", x.repay(0, 9999), 0);

        says(7, "Returns the rest then; NONE if it is refused, as the member has no loan, or the rest is less than "
            + "the amount.");
        PledgedLoans y = union(100, 100);
        y.borrow(0, 100, 10);
        due("the rest is less by 1", y.repay(0, 101), NONE);
        due("no loan", y.repay(1, 1), NONE);
        due("refused", y.count(9), 2);
        due("till", y.count(0), 102);
        due("paid", y.memberOf(0, 8), 0);
        due("a part", y.repay(0, 40), 60);
        due("the rest is less", y.repay(0, 61), NONE);
        due("all", y.repay(0, 60), 0);
        due("no loan any more", y.repay(0, 1), NONE);
        due("refused", y.count(9), 4);

        says(7, "Throws `IndexOutOfBoundsException` if there is no such member");
        dueThrowsForMembers(x, "repay", m -> x.repay(m, 1));
        dueThrowsForMembers(x, "repay, with a wrong amount", m -> x.repay(m, 0));

        says(7, "Throws `IllegalArgumentException` if amount is out of range");
        dueThrowsForAmounts(x, "repay", a -> x.repay(5, a));
        dueThrowsForAmounts(x, "repay without a loan", a -> x.repay(1, a));
    }

    // ---- weeks, days

    private static void week() {
        says(8, "Ends a week. (No day goes by through this.)");
        PledgedLoans x = union(100);
        x.week();
        due("weeks", x.count(7), 1);
        due("the day", x.count(8), 0);
        due("share days", x.memberOf(0, 5), 0);

        says(8, "Undoable.");
        dueUndoable(x, "week without loans", x::week);
        PledgedLoans y = lent(120, 50);
        dueUndoable(y, "week by which a loan falls due", y::week);

        says(8, "Returns how many loans fall due.");
        due("none is there", x.week(), 0);
        PledgedLoans z = union(10, 10, 10, 10, 10, 10);
        z.set(1, 2);
        z.borrow(0, 10, 2);
        due("none falls due", z.week(), 0);
        for (int member = 1; member < 6; member++) {
            z.borrow(member, 10, 2);
        }
        due("one of six", z.week(), 1);
        due("the other five", z.week(), 5);
        due("fallen due so far", z.count(6), 6);
        due("none is left", z.week(), 0);
        PledgedLoans all = union(10, 10, 10, 10, 10, 10);
        all.set(1, 1);
        for (int member = 0; member < 6; member++) {
            all.borrow(member, 10, 2);
        }
        due("all six", all.week(), 6);

        says(8, "Throws `IllegalStateException` if 9999 weeks ended");
        PledgedLoans v = lent(120, 50);
        force(v, "weeksEnded", 9998);
        due("week 9999", v.week(), 1);
        due("weeks", v.count(7), 9999);
        v.payIn(0, 10);
        v.borrow(0, 10, 1);
        dueThrows(v, STATE, "week 10000", v::week);
        due("loans", v.count(4), 1);
    }

    private static void pass() {
        says(9, "Lets days go by.");
        PledgedLoans x = union(10);
        x.pass(7);
        due("the day", x.count(8), 7);
        due("share days", x.memberOf(0, 5), 70);
        due("weeks", x.count(7), 0);

        says(9, "Undoable.");
        dueUndoable(x, "pass", () -> x.pass(5));

        says(9, "`days`: 1 to 99");
        due("pass(1)", x.pass(1), 8);
        due("pass(99)", x.pass(99), 107);

        says(9, "Returns the day then, from 0 at first.");
        PledgedLoans y = new PledgedLoans();
        due("the day at first", y.count(8), 0);
        due("pass(1)", y.pass(1), 1);
        due("pass(1)", y.pass(1), 2);
        y.dividend();
        due("a dividend lets the days be", y.pass(1), 3);

        says(9, "Throws `IllegalArgumentException` if days is out of range");
        dueThrowsForOthers(x, ARGUMENT, "pass", 1, 99, d -> x.pass(d));
    }

    private static void passThrows() {
        says(9, "Throws `IllegalStateException` if share days of a member would be above 100000000, or the day above "
            + "9999");
        for (int member = 0; member < 6; member++) {
            PledgedLoans x = new PledgedLoans();
            payAllIn(x, member, 80000);
            passAll(x, 1249);
            dueThrows(x, STATE, "pass(2) above 100000000 of " + member, () -> x.pass(2));
            due("pass(1) to just 100000000", x.pass(1), 1250);
            due("share days", x.memberOf(member, 5), 100000000);
            dueThrows(x, STATE, "pass(1) above 100000000", () -> x.pass(1));
            for (int left = 79999; left > 0; left -= 9999) {
                x.payOut(member, Math.min(left, 9999));
            }
            dueThrows(x, STATE, "pass(1) above 100000000 by 1", () -> x.pass(1));
            x.payOut(member, 1);
            due("pass(99) without shares", x.pass(99), 1349);
            x.payIn(member, 1);
            x.dividend();
            due("pass(1) after a dividend", x.pass(1), 1350);
        }
        PledgedLoans two = union(80000, 80000);
        passAll(two, 1249);
        due("of each by itself", two.pass(1), 1250);
        PledgedLoans y = new PledgedLoans();
        passAll(y, 9998);
        dueThrows(y, STATE, "pass(2) above day 9999", () -> y.pass(2));
        dueThrows(y, STATE, "pass(99) above day 9999", () -> y.pass(99));
        due("pass(1) to just day 9999", y.pass(1), 9999);
        dueThrows(y, STATE, "pass(1) above day 9999", () -> y.pass(1));
        PledgedLoans z = new PledgedLoans();
        passAll(z, 9900);
        due("pass(99) to just day 9999", z.pass(99), 9999);
    }

    /** Member 0 with 100 shares, member 5 with 50, and a surplus of 10. */
    private static PledgedLoans withSurplus() {
        PledgedLoans x = union(100, 0, 0, 0, 0, 50);
        x.set(0, 100);
        x.borrow(0, 100, 1);
        x.repay(0, 100);
        return x;
    }

    private static void dividend() {
        says(10, "Pays a dividend.");
        PledgedLoans x = withSurplus();
        x.pass(1);
        x.dividend();
        due("shares of 0, by 6.67", x.memberOf(0, 0), 106);
        due("shares of 5, by 3.33", x.memberOf(5, 0), 53);
        due("surplus", x.count(1), 1);
        due("share days of 0", x.memberOf(0, 5), 0);
        due("share days of 5", x.memberOf(5, 5), 0);

        says(10, "Undoable, also if it is refused.");
        PledgedLoans y = withSurplus();
        y.pass(1);
        dueUndoable(y, "dividend", y::dividend);
        y.dividend();
        dueUndoable(y, "dividend, refused", y::dividend);

        says(10, "Returns how much is shared out; NONE if it is refused.");
        PledgedLoans z = withSurplus();
        due("without share days", z.dividend(), NONE);
        due("refused", z.count(9), 1);
        due("surplus", z.count(1), 10);
        z.pass(1);
        due("6 and 3", z.dividend(), 9);
        due("without share days again", z.dividend(), NONE);
        z.pass(1);
        due("1, too little for one", z.dividend(), 0);
        due("refused", z.count(9), 2);
        due("paid together", z.count(10), 9);
        PledgedLoans v = union(90000);
        v.set(0, 100);
        v.borrow(0, 9999, 1);
        passAll(v, 1111);
        due("999 times 99990000 share days", v.dividend(), 999);
        due("shares above 90000", v.memberOf(0, 0), 90999);
    }

    private static void set() {
        says(11, "Changes a setting.");
        PledgedLoans x = new PledgedLoans();
        x.set(0, 7);
        due("setting(0)", x.setting(0), 7);
        due("setting(1) stays", x.setting(1), 3);
        x.set(1, 4);
        due("setting(1)", x.setting(1), 4);
        due("setting(0) stays", x.setting(0), 7);

        says(11, "Undoable.");
        dueUndoable(x, "set", () -> x.set(1, 5));
        dueUndoable(x, "set to the same", () -> x.set(1, 4));

        says(11, "`setting`: 0 or 1");
        due("set(0, 5)", x.set(0, 5), 7);
        due("set(1, 5)", x.set(1, 5), 4);

        says(11, "`value`: the new value");
        due("set(0, 0)", x.set(0, 0), 5);
        due("setting(0)", x.setting(0), 0);
        due("set(1, 1)", x.set(1, 1), 5);
        due("setting(1)", x.setting(1), 1);

        says(11, "Returns the previous value.");
        due("set(0, 100)", x.set(0, 100), 0);
        due("set(0, 100) again", x.set(0, 100), 100);
        due("set(0, 20)", x.set(0, 20), 100);

        says(11, "Throws `IndexOutOfBoundsException` if there is no such setting");
        dueThrowsForOthers(x, INDEX, "set", 0, 1, s -> x.set(s, 1));
        dueThrowsForOthers(x, INDEX, "set to a wrong value", 0, 1, s -> x.set(s, -1));

        says(11, "Throws `IllegalArgumentException` if value is out of range");
        dueThrowsForOthers(x, ARGUMENT, "set(0)", 0, 100, v -> x.set(0, v));
        dueThrowsForOthers(x, ARGUMENT, "set(1)", 1, 5, v -> x.set(1, v));
    }

    // ---- texts, snapshots

    private static void append() {
        says(12, "Appends a character to the buffer.");
        PledgedLoans x = new PledgedLoans();
        x.append('w');
        due("firstError()", x.firstError(), 1);
        x.append('?');
        due("firstError() behind the first", x.firstError(), 1);
        due("saved states", x.count(11), 0);

        says(12, "`code`: the character code, 33 to 126");
        due("append(33)", x.append(33), 3);
        due("append(126)", x.append(126), 4);

        says(12, "Returns the new length of the buffer.");
        x.clearBuffer();
        due("from 0", x.append('w'), 1);
        for (int length = 2; length <= 60; length++) {
            due("append", x.append(';'), length);
        }

        says(12, "Throws `IllegalArgumentException` if code is not 33 to 126");
        dueThrowsForOthers(x, ARGUMENT, "append to a full buffer", 33, 126, c -> x.append(c));
        PledgedLoans y = new PledgedLoans();
        dueThrowsForOthers(y, ARGUMENT, "append", 33, 126, c -> y.append(c));
        dueThrows(y, ARGUMENT, "append(65536 + 119)", () -> y.append(65536 + 'w'));

        says(12, "Throws `IllegalStateException` if the buffer has 60 characters");
        dueThrows(x, STATE, "append", () -> x.append('w'));
        due("clearBuffer()", x.clearBuffer(), 60);
        for (int length = 1; length < 60; length++) {
            x.append('w');
        }
        due("append to 59", x.append('w'), 60);
    }

    private static void clearBuffer() {
        says(13, "Clears the buffer.");
        PledgedLoans x = new PledgedLoans();
        type(x, "??");
        x.clearBuffer();
        due("firstError()", x.firstError(), 0);
        dueThrows(x, ARGUMENT, "run()", x::run);
        type(x, "w");
        due("what comes then", x.run(), 1);
        due("saved states, by run() alone", x.count(11), 1);

        says(13, "Returns the length that it had.");
        due("after run()", x.clearBuffer(), 0);
        type(x, "abc");
        due("of three", x.clearBuffer(), 3);
        due("of none", x.clearBuffer(), 0);
        type(x, "w;w;w;w;w;w;w;w;w;w;w;w;w;w;w;w;w;w;w;w;w;w;w;w;w;w;w;w;w;w;");
        due("of a full one", x.clearBuffer(), 60);
    }

    private static void firstError() {
        says(14, "Finds the first syntax error of the buffer.");
        PledgedLoans x = new PledgedLoans();
        type(x, "w;+0:5;?;?");
        due("the first of two", x.firstError(), 7);
        due("again", x.firstError(), 7);
        dueLook(x, "firstError()", x::firstError);

        says(14, "Returns the index of the first character that is a syntax error; the length of the buffer if there "
            + "is none.");
        errorIn("", 0);
        errorIn("?", 0);
        errorIn("w", 1);
        errorIn("w?", 1);
        errorIn("+", 1);
        errorIn("p0>1:10/", 7);
        errorIn("b5:9999/52", 10);
        String almost = "w;w;w;w;w;w;w;w;w;w;w;w;w;w;w;w;w;w;w;w;w;w;w;w;w;w;w;w;w;";
        errorIn(almost + "+0", 60);
        errorIn(almost + "w;", 60);
        errorIn(almost + "ww", 59);
    }

    private static void errorIn(String text, int at) {
        PledgedLoans x = new PledgedLoans();
        type(x, text);
        due("firstError() of " + text, x.firstError(), at);
    }

    private static void run() {
        says(15, "Does the orders in the buffer as payIn(), payOut(), pledge(), borrow(), repay() and week() do, one "
            + "after the other, up to the first one that is refused (and counted so), or whose method would throw an "
            + "exception, and clears the buffer.");
        PledgedLoans x = new PledgedLoans();
        typeAndRun(x, "+0:1000;+1:500;-0:100;p0>1:200;b1:700/7;r1:50;w");
        due("clearBuffer()", x.clearBuffer(), 0);
        PledgedLoans y = new PledgedLoans();
        y.payIn(0, 1000);
        y.payIn(1, 500);
        y.payOut(0, 100);
        y.pledge(0, 1, 200);
        y.borrow(1, 700, 7);
        y.repay(1, 50);
        y.week();
        dueText("looks", looks(x), looks(y));
        PledgedLoans z = new PledgedLoans();
        force(z, "weeksEnded", 9998);
        due("the second week would throw", typeAndRun(z, "w;w;+0:1"), 1);
        due("weeks", z.count(7), 9999);
        due("not counted as refused", z.count(9), 0);
        due("what comes behind it is not done", z.memberOf(0, 0), 0);
        due("the buffer is cleared", z.clearBuffer(), 0);
        due("saved states", z.count(11), 1);
    }

    private static void runStops() {
        for (String refused : new String[] {"+5:9999", "-0:101", "p0>1:101", "b0:101/1", "b0:301/1", "r0:1"}) {
            stopsAt(refused);
        }

        says(15, "Undoable, as one call, also if none is done.");
        PledgedLoans x = union(100, 0, 0, 0, 0, 90000);
        type(x, "+0:5;p0>1:9;b0:90/9;w;r0:80;-0:1");
        dueUndoable(x, "run of six orders", x::run);
        type(x, "r0:5;w");
        dueUndoable(x, "run of which none is done", x::run);
        type(x, "w;w");
        x.run();
        x.undo();
        due("weeks", x.count(7), 0);

        says(15, "Returns how many are done.");
        due("none", typeAndRun(x, "r0:5"), 0);
        due("one", typeAndRun(x, "w"), 1);
        due("all of three", typeAndRun(x, "w;w;w"), 3);
        due("two of four", typeAndRun(x, "w;w;r0:5;w"), 2);
        due("thirty", typeAndRun(x, "w;w;w;w;w;w;w;w;w;w;w;w;w;w;w;w;w;w;w;w;w;w;w;w;w;w;w;w;w;w"), 30);

        says(15, "Throws `IllegalArgumentException` if the buffer does not tell orders as a text");
        for (String text : new String[] {"", "w;", ";w", "w;;w", "+", "+0", "+0:", "+0:0", "p1>1:5", "p0>1", "b0:10",
            "b0:10/", "b0:10/53", "w;x", "ww", "+0:10000"}) {
            x.clearBuffer();
            type(x, text);
            dueThrows(x, ARGUMENT, "run() of " + text, x::run);
            due("the buffer stays", x.clearBuffer(), text.length());
        }
    }

    /** The order is refused to a union of 100 shares of member 0 and 90000 of member 5. */
    private static void stopsAt(String refused) {
        PledgedLoans x = union(100, 0, 0, 0, 0, 90000);
        due(refused + " behind one", typeAndRun(x, "w;" + refused + ";w"), 1);
        due(refused + ", weeks", x.count(7), 1);
        due(refused + ", refused", x.count(9), 1);
        due(refused + ", clearBuffer()", x.clearBuffer(), 0);
        due(refused + " at once", typeAndRun(x, refused + ";w"), 0);
        due(refused + ", weeks", x.count(7), 1);
        due(refused + ", refused", x.count(9), 2);
        due(refused + " as the last", typeAndRun(x, "w;" + refused), 1);
        due(refused + ", refused", x.count(9), 3);
    }

    private static void keep() {
        says(16, "Takes a snapshot, in place of the one in the slot.");
        PledgedLoans x = union(100);
        x.keep(0);
        x.payIn(0, 1);
        x.keep(0);
        x.payIn(0, 1);
        x.goBack(0);
        due("the later one", x.memberOf(0, 0), 101);
        x.payIn(0, 50);
        x.keep(1);
        x.goBack(0);
        due("the other slot is by itself", x.memberOf(0, 0), 101);
        dueLook(x, "keep() into a slot that has one", () -> x.keep(1));

        says(16, "`slot`: 0 or 1");
        due("keep(0)", x.keep(0), 0);
        due("keep(1)", x.keep(1), 0);

        says(16, "Returns how many loans there are.");
        PledgedLoans y = union(10, 10, 10, 10, 10, 10);
        for (int loans = 0; loans < 6; loans++) {
            due("keep(0)", y.keep(0), loans);
            y.borrow(loans, 10, 1);
        }
        due("keep(1)", y.keep(1), 6);
        y.repay(3, 10);
        due("keep(1)", y.keep(1), 5);

        says(16, "Throws `IllegalArgumentException` if slot is out of range");
        dueThrowsForOthers(x, ARGUMENT, "keep", 0, 1, s -> x.keep(s));
    }

    private static void goBack() {
        says(17, "Goes back to a snapshot, which stays.");
        PledgedLoans x = lent(120, 50);
        x.pass(3);
        x.keep(1);
        String kept = looks(x);
        x.week();
        x.payIn(0, 9);
        x.goBack(1);
        dueText("once", looks(x), kept);
        x.repay(0, 120);
        x.unpledge(1, 0, 50);
        x.goBack(1);
        dueText("again", looks(x), kept);
        x.undo();
        x.undo();
        x.goBack(1);
        dueText("after undo()", looks(x), kept);

        says(17, "Undoable.");
        x.repay(0, 120);
        dueUndoable(x, "goBack", () -> x.goBack(1));

        says(17, "`slot`: 0 or 1");
        PledgedLoans y = union(10, 10);
        y.keep(0);
        y.borrow(0, 10, 1);
        y.keep(1);
        due("goBack(0)", y.goBack(0), 0);
        due("goBack(1)", y.goBack(1), 1);

        says(17, "Returns how many loans there are then.");
        y.borrow(1, 10, 1);
        due("goBack(1), from two loans", y.goBack(1), 1);
        due("goBack(0)", y.goBack(0), 0);

        says(17, "Throws `IllegalArgumentException` if slot is out of range");
        dueThrowsForOthers(x, ARGUMENT, "goBack", 0, 1, s -> x.goBack(s));

        says(17, "Throws `IllegalStateException` if there is no snapshot in it");
        dueThrows(x, STATE, "goBack(0)", () -> x.goBack(0));
        PledgedLoans z = union(10);
        z.keep(0);
        dueThrows(z, STATE, "goBack(1)", () -> z.goBack(1));
        z.undo();
        due("goBack(0) stays, though all is undone", z.goBack(0), 0);
        due("shares", z.memberOf(0, 0), 10);
    }

    private static void undo() {
        says(18, "Restores the latest saved state, and drops it.");
        PledgedLoans x = union(1, 2, 3);
        x.undo();
        due("shares of 2", x.memberOf(2, 0), 0);
        due("shares of 1", x.memberOf(1, 0), 2);
        x.undo();
        due("shares of 1", x.memberOf(1, 0), 0);
        x.payIn(4, 7);
        x.undo();
        due("shares of 4", x.memberOf(4, 0), 0);
        due("shares of 0", x.memberOf(0, 0), 1);

        says(18, "Returns how many saved states are left.");
        due("none is left", x.undo(), 0);
        for (int i = 0; i < 7; i++) {
            x.payIn(0, 1);
        }
        for (int left = 5; left >= 0; left--) {
            due("undo() of six", x.undo(), left);
        }
        due("shares, of which the first of seven stay", x.memberOf(0, 0), 1);

        says(18, "Throws `IllegalStateException` if there is none");
        dueThrows(x, STATE, "undo()", x::undo);
        PledgedLoans y = new PledgedLoans();
        dueThrows(y, STATE, "undo() at first", y::undo);
        y.keep(0);
        type(y, "w");
        dueThrows(y, STATE, "undo() after keep() and append()", y::undo);
    }

    // ---- looks

    private static void memberOf() {
        says(19, "Returns a property of a member.");
        PledgedLoans x = union(100, 100, 0, 0, 0, 7);
        due("memberOf(5, 0)", x.memberOf(5, 0), 7);
        due("memberOf(4, 0)", x.memberOf(4, 0), 0);
        dueLook(x, "memberOf", () -> x.memberOf(0, 4));

        says(19, "`member`: 0 to 5");
        due("memberOf(0, 3)", x.memberOf(0, 3), 100);
        due("memberOf(5, 3)", x.memberOf(5, 3), 7);

        says(19, "Returns the property.");
        due("memberOf(1, 4)", x.memberOf(1, 4), 100);

        says(19, "Throws `IndexOutOfBoundsException` if there is no such member");
        dueThrowsForMembers(x, "memberOf", m -> x.memberOf(m, 0));
        dueThrowsForMembers(x, "memberOf, with a wrong what", m -> x.memberOf(m, 10));

        says(19, "Throws `IllegalArgumentException` if what is not 0 to 9");
        dueThrowsForOthers(x, ARGUMENT, "memberOf", 0, 9, w -> x.memberOf(0, w));
    }

    private static void properties() {
        says(19, "`what`: 0: the shares; 1: what the member has pledged, together; 2: what is pledged for the member, "
            + "together; 3: the cover; 4: what is free; 5: share days; 6: the rest of the loan, 0 without one; 7: its "
            + "part, 8: what was paid in this week, 9: misses, NONE for 7 to 9 without a loan");
        PledgedLoans x = union(100, 70, 50);
        int[] atFirst = {100, 0, 0, 100, 100, 0, 0, NONE, NONE, NONE};
        dueProperties(x, atFirst);
        x.pledge(1, 0, 30);
        x.pledge(2, 0, 20);
        x.pledge(0, 3, 5);
        x.pledge(0, 4, 7);
        x.pass(2);
        x.borrow(0, 130, 4);
        x.week();
        x.repay(0, 30);
        int[] lent = {100, 12, 50, 138, 38, 200, 100, 33, 30, 1};
        dueProperties(x, lent);
        x.repay(0, 1);
        due("paid is added up", x.memberOf(0, 8), 31);
        x.repay(0, 99);
        int[] back = {100, 12, 50, 138, 88, 200, 0, NONE, NONE, NONE};
        dueProperties(x, back);
    }

    private static void dueProperties(PledgedLoans x, int[] want) {
        for (int what = 0; what < 10; what++) {
            due("memberOf(0, " + what + ")", x.memberOf(0, what), want[what]);
        }
    }

    private static void pledged() {
        says(20, "Tells what is pledged by a member for another one.");
        PledgedLoans x = union(100, 70, 0, 0, 0, 60);
        x.pledge(0, 1, 30);
        x.pledge(1, 0, 20);
        due("pledged(0, 1)", x.pledged(0, 1), 30);
        due("pledged(1, 0)", x.pledged(1, 0), 20);
        dueLook(x, "pledged", () -> x.pledged(0, 1));

        says(20, "`member`: 0 to 5");
        x.pledge(5, 0, 7);
        x.pledge(0, 5, 8);
        due("pledged(5, 0)", x.pledged(5, 0), 7);

        says(20, "`borrower`: 0 to 5");
        due("pledged(0, 5)", x.pledged(0, 5), 8);
        due("pledged(0, 4)", x.pledged(0, 4), 0);

        says(20, "Returns the amount, 0 if both are the same.");
        for (int member = 0; member < 6; member++) {
            due("pledged by one for the same", x.pledged(member, member), 0);
        }
        x.unpledge(0, 5, 8);
        due("pledged(0, 5), taken back", x.pledged(0, 5), 0);

        says(20, "Throws `IndexOutOfBoundsException` if there is no such member");
        dueThrowsForMembers(x, "pledged by", m -> x.pledged(m, 0));
        dueThrowsForMembers(x, "pledged for", m -> x.pledged(0, m));
        dueThrowsForMembers(x, "pledged by and for", m -> x.pledged(m, m));
    }

    private static void count() {
        says(21, "Returns a number.");
        PledgedLoans x = union(100);
        due("count(0)", x.count(0), 100);
        dueLook(x, "count", () -> x.count(0));

        says(21, "Returns the number.");
        due("count(11)", x.count(11), 1);

        says(21, "Throws `IllegalArgumentException` if what is not 0 to 11");
        dueThrowsForOthers(x, ARGUMENT, "count", 0, 11, w -> x.count(w));
    }

    private static void counts() {
        says(21, "`what`: 0: the till; 1: the surplus; 2: all shares; 3: the rests of all loans; 4: loans; 5: loans "
            + "given so far; 6: loans that fell due so far; 7: weeks that ended; 8: the day; 9: what was refused so "
            + "far; 10: dividends paid so far, together; 11: saved states");
        PledgedLoans x = union(100, 100, 100);
        x.set(0, 100);
        x.borrow(0, 40, 1);
        x.borrow(1, 50, 1);
        x.borrow(2, 60, 1);
        int[] lent = {300 - 150 + 15, 15, 300, 150, 3, 3, 0, 0, 0, 0, 0, 6};
        dueCounts(x, lent);
        x.repay(0, 40);
        x.week();
        x.week();
        x.week();
        x.pass(9);
        x.payOut(5, 1);
        x.repay(5, 1);
        x.dividend();
        x.dividend();
        x.borrow(0, 10, 1);
        x.undo();
        int[] then = {165 + 40, 2, 190 + 13, 0, 0, 3, 2, 3, 9, 3, 7 + 3 + 3, 5};
        dueCounts(x, then);
        x.payIn(0, 1);
        x.set(0, 100);
        x.borrow(0, 70, 1);
        x.repay(0, 70);
        x.pass(1);
        x.dividend();
        due("two dividends together", x.count(10), 13 + 4 + 2 + 1);
        due("surplus", x.count(1), 2);
    }

    private static void dueCounts(PledgedLoans x, int[] want) {
        for (int what = 0; what < 12; what++) {
            due("count(" + what + ")", x.count(what), want[what]);
        }
    }

    private static void setting() {
        says(22, "Returns a setting.");
        PledgedLoans x = new PledgedLoans();
        due("setting(0) at first", x.setting(0), 20);
        due("setting(1) at first", x.setting(1), 3);
        dueLook(x, "setting", () -> x.setting(1));

        says(22, "`setting`: 0 or 1");
        x.set(0, 0);
        x.set(1, 5);
        due("setting(0)", x.setting(0), 0);
        due("setting(1)", x.setting(1), 5);

        says(22, "Returns its value.");
        x.set(0, 100);
        due("setting(0)", x.setting(0), 100);

        says(22, "Throws `IndexOutOfBoundsException` if there is no such setting");
        dueThrowsForOthers(x, INDEX, "setting", 0, 1, s -> x.setting(s));
    }

    // ---- what would be

    private static void whyNot() {
        says(23, "Tells why a loan would be refused.");
        PledgedLoans x = union(9999, 10, 0, 0, 0, 10);
        due("whyNot(5, 31)", x.whyNot(5, 31), 2);
        dueLook(x, "whyNot", () -> x.whyNot(5, 31));
        dueLook(x, "whyNot of one that would be given", () -> x.whyNot(5, 1));

        says(23, "`member`: 0 to 5");
        due("whyNot(0, 1)", x.whyNot(0, 1), 0);
        due("whyNot(5, 1)", x.whyNot(5, 1), 0);

        says(23, "`amount`: 1 to 9999");
        due("whyNot(1, 1)", x.whyNot(1, 1), 0);
        due("whyNot(0, 9999)", x.whyNot(0, 9999), 0);

        says(23, "Returns the reason; 0 if it would be given.");
        due("whyNot(2, 1)", x.whyNot(2, 1), 2);
        due("whyNot(1, 30)", x.whyNot(1, 30), 3);
        due("whyNot(1, 11)", x.whyNot(1, 11), 3);
        due("whyNot(1, 10)", x.whyNot(1, 10), 0);
        x.borrow(1, 1, 1);
        due("whyNot(1, 1)", x.whyNot(1, 1), 1);
        force(x, "till", 97);
        due("whyNot(0, 100)", x.whyNot(0, 100), 4);
        due("whyNot(0, 99)", x.whyNot(0, 99), 4);
        due("whyNot(0, 98)", x.whyNot(0, 98), 0);
        due("refused", x.count(9), 0);

        says(23, "Throws `IndexOutOfBoundsException` if there is no such member");
        dueThrowsForMembers(x, "whyNot", m -> x.whyNot(m, 1));
        dueThrowsForMembers(x, "whyNot, with a wrong amount", m -> x.whyNot(m, 10000));

        says(23, "Throws `IllegalArgumentException` if amount is out of range");
        dueThrowsForAmounts(x, "whyNot", a -> x.whyNot(0, a));
        dueThrowsForAmounts(x, "whyNot of one with a loan", a -> x.whyNot(1, a));
    }

    private static void dueGreatest(String of, PledgedLoans x, int member, int want) {
        due("greatest by halving, " + of, x.greatest(member, 0), want);
        due("greatest by trying all, " + of, x.greatest(member, 1), want);
    }

    private static void greatest() {
        says(24, "Tells the greatest loan of a member.");
        PledgedLoans x = union(10000, 700, 0, 0, 0, 9);
        due("greatest(1, 0)", x.greatest(1, 0), 700);
        dueLook(x, "greatest by halving", () -> x.greatest(1, 0));
        dueLook(x, "greatest by trying all", () -> x.greatest(1, 1));

        says(24, "`member`: 0 to 5");
        dueGreatest("of 0", x, 0, 9999);
        dueGreatest("of 5", x, 5, 9);

        says(24, "`what`: 0: told by halving; 1: told by trying all amounts");
        for (int shares : new int[] {1, 2, 3, 4095, 4096, 4097, 5000, 8191, 8192, 8193, 9998}) {
            dueGreatest("with a cover of " + shares, union(shares), 0, shares);
        }

        says(24, "Returns the greatest amount, 1 to 9999, for which a loan would be given (the same for both); 0 if "
            + "there is none.");
        dueGreatest("with a cover of 9999", union(9999), 0, 9999);
        dueGreatest("with a cover of 90000", union(90000), 0, 9999);
        dueGreatest("without shares", union(0), 0, 0);
        dueGreatest("with a loan", lent(1), 0, 0);
        PledgedLoans y = union(1, 20000);
        y.pledge(1, 0, 9999);
        dueGreatest("with three times 1", y, 0, 3);
        payAllIn(y, 0, 3331);
        dueGreatest("with three times 3332", y, 0, 9996);
        y.payIn(0, 1);
        dueGreatest("with three times 3333", y, 0, 9999);
        PledgedLoans z = union(10);
        z.pledge(0, 1, 10);
        dueGreatest("with no cover", z, 0, 0);
        PledgedLoans v = union(9999);
        force(v, "till", 0);
        dueGreatest("with nothing in the till", v, 0, 0);
        force(v, "till", 9799);
        dueGreatest("with 9799 in the till", v, 0, 9998);
        force(v, "till", 9800);
        dueGreatest("with 9800 in the till", v, 0, 9999);
        for (int amount : new int[] {9799, 9800}) {
            force(v, "till", amount);
            due("whyNot() of it", v.whyNot(0, v.greatest(0, 0)), 0);
        }

        says(24, "Throws `IndexOutOfBoundsException` if there is no such member");
        dueThrowsForMembers(x, "greatest by halving", m -> x.greatest(m, 0));
        dueThrowsForMembers(x, "greatest by trying all", m -> x.greatest(m, 1));
        dueThrowsForMembers(x, "greatest, with a wrong what", m -> x.greatest(m, 2));

        says(24, "Throws `IllegalArgumentException` if what is not 0 or 1");
        dueThrowsForOthers(x, ARGUMENT, "greatest", 0, 1, w -> x.greatest(0, w));
    }

    private static void dueFewest(PledgedLoans x, int member, int amount, int want) {
        due("guarantors(" + member + ", " + amount + ", 0)", x.guarantors(member, amount, 0), want);
        due("guarantors(" + member + ", " + amount + ", 1)", x.guarantors(member, amount, 1), want);
    }

    private static void guarantors() {
        says(25, "Tells how few guarantors a member needs more for an amount.");
        PledgedLoans x = union(9999, 10, 20, 40, 80, 160);
        dueFewest(x, 1, 11, 1);
        dueLook(x, "guarantors by the greatest", () -> x.guarantors(1, 500, 0));
        dueLook(x, "guarantors by sets", () -> x.guarantors(1, 500, 1));

        says(25, "`member`: 0 to 5");
        dueFewest(x, 0, 9999, 0);
        dueFewest(x, 5, 161, 1);

        says(25, "`amount`: 1 to 9999");
        dueFewest(x, 1, 1, 0);
        dueFewest(x, 1, 9999, 1);

        says(25, "`what`: 0: told by the others in whose shares the most is free, first; 1: told by all sets of others");
        PledgedLoans y = union(5, 10, 20, 40, 80, 160);
        dueFewest(y, 0, 165, 1);
        dueFewest(y, 0, 166, 2);
        dueFewest(y, 0, 245, 2);
        dueFewest(y, 0, 246, 3);
        dueFewest(y, 0, 285, 3);
        dueFewest(y, 0, 286, 4);
        dueFewest(y, 0, 305, 4);
        dueFewest(y, 0, 306, 5);
        dueFewest(y, 5, 240, 1);
        dueFewest(y, 5, 241, 2);
        due("by the greatest, as the first call", union(5, 10, 20).guarantors(0, 26, 0), 2);
        due("by sets, as the first call", union(5, 10, 20).guarantors(0, 26, 1), 2);

        says(25, "Returns the fewest others with whom, if all that is free of theirs was pledged, the cover would be "
            + "at least the amount (the same for both); 0 if it is now; NONE if all others are not enough.");
        dueFewest(y, 0, 5, 0);
        dueFewest(y, 0, 6, 1);
        dueFewest(y, 0, 315, 5);
        dueFewest(y, 0, 316, NONE);
        dueFewest(y, 5, 316, NONE);
        dueFewest(new PledgedLoans(), 0, 1, NONE);
        dueFewest(union(1), 0, 1, 0);
        dueFewest(union(1), 0, 2, NONE);
        dueFewest(union(0, 1), 0, 1, 1);
        dueFewest(union(0, 7, 7, 7, 7, 7), 0, 28, 4);
        dueFewest(union(0, 7, 7, 7, 7, 7), 0, 29, 5);
        PledgedLoans z = lent(120, 50);
        dueFewest(z, 0, 150, 0);
        dueFewest(z, 0, 151, 1);
        dueFewest(z, 0, 1100, 1);
        dueFewest(z, 0, 1101, NONE);
        dueFewest(z, 2, 980, 2);
        dueFewest(z, 2, 981, NONE);

        says(25, "Throws `IndexOutOfBoundsException` if there is no such member");
        dueThrowsForMembers(x, "guarantors by the greatest", m -> x.guarantors(m, 1, 0));
        dueThrowsForMembers(x, "guarantors by sets", m -> x.guarantors(m, 1, 1));
        dueThrowsForMembers(x, "guarantors, with a wrong amount", m -> x.guarantors(m, 0, 0));

        says(25, "Throws `IllegalArgumentException` if amount is out of range, or what is not 0 or 1");
        dueThrowsForAmounts(x, "guarantors by the greatest", a -> x.guarantors(0, a, 0));
        dueThrowsForAmounts(x, "guarantors by sets", a -> x.guarantors(0, a, 1));
        dueThrowsForOthers(x, ARGUMENT, "guarantors", 0, 1, w -> x.guarantors(0, 1, w));
    }

    private static void dueWeeks(String of, PledgedLoans x, int member, int want) {
        due("weeksLeft week by week, " + of, x.weeksLeft(member, 0), want);
        due("weeksLeft at once, " + of, x.weeksLeft(member, 1), want);
    }

    private static void weeksLeft() {
        says(26, "Tells how long a loan lasts, if its part, or the rest, if that is less, is paid in each week.");
        PledgedLoans x = union(100, 0, 0, 0, 0, 9999);
        x.borrow(0, 100, 10);
        dueWeeks("ten parts", x, 0, 10);
        x.repay(0, 9);
        dueWeeks("nine parts and a rest", x, 0, 10);
        x.repay(0, 1);
        dueWeeks("nine parts", x, 0, 9);
        x.repay(0, 79);
        dueWeeks("a part and a rest", x, 0, 2);
        x.repay(0, 1);
        dueWeeks("one part", x, 0, 1);
        x.repay(0, 9);
        dueWeeks("a rest of 1", x, 0, 1);
        dueLook(x, "weeksLeft week by week", () -> x.weeksLeft(0, 0));
        dueLook(x, "weeksLeft at once", () -> x.weeksLeft(0, 1));

        says(26, "`member`: 0 to 5");
        x.borrow(5, 9999, 52);
        dueWeeks("of 0", x, 0, 1);
        dueWeeks("of 5", x, 5, 52);

        says(26, "`what`: 0: told week by week; 1: told at once");
        for (int weeks = 1; weeks <= 52; weeks++) {
            PledgedLoans y = union(1000);
            y.borrow(0, 997, weeks);
            int part = y.memberOf(0, 7);
            dueWeeks("997 over " + weeks, y, 0, 997 / part + (997 % part > 0 ? 1 : 0));
        }

        says(26, "Returns in how many weeks the rest is 0 (the same for both; what was paid in this week does not "
            + "matter); 0 without a loan.");
        PledgedLoans z = union(100);
        dueWeeks("without a loan", z, 0, 0);
        z.borrow(0, 100, 3);
        z.repay(0, 32);
        dueWeeks("34 and 34, with 32 paid", z, 0, 2);
        z.week();
        dueWeeks("34 and 34 in the next week", z, 0, 2);
        z.repay(0, 68);
        dueWeeks("paid back", z, 0, 0);
        z.borrow(0, 1, 52);
        dueWeeks("1 over 52", z, 0, 1);
        PledgedLoans v = lent(100);
        v.week();
        dueWeeks("fallen due", v, 0, 0);

        says(26, "Throws `IndexOutOfBoundsException` if there is no such member");
        dueThrowsForMembers(x, "weeksLeft week by week", m -> x.weeksLeft(m, 0));
        dueThrowsForMembers(x, "weeksLeft at once", m -> x.weeksLeft(m, 1));
        dueThrowsForMembers(x, "weeksLeft, with a wrong what", m -> x.weeksLeft(m, 2));

        says(26, "Throws `IllegalArgumentException` if what is not 0 or 1");
        dueThrowsForOthers(x, ARGUMENT, "weeksLeft", 0, 1, w -> x.weeksLeft(0, w));
        dueThrowsForOthers(x, ARGUMENT, "weeksLeft without a loan", 0, 1, w -> x.weeksLeft(1, w));
    }

    private static void ifDivided() {
        says(27, "Tells what a member would get by a dividend.");
        PledgedLoans x = withSurplus();
        x.pass(1);
        due("ifDivided(0), 6.67", x.ifDivided(0), 6);
        dueLook(x, "ifDivided", () -> x.ifDivided(0));

        says(27, "`member`: 0 to 5");
        due("ifDivided(5), 3.33", x.ifDivided(5), 3);
        due("ifDivided(1), without shares", x.ifDivided(1), 0);

        says(27, "Returns the amount; 0 if it would be refused.");
        x.dividend();
        due("share days are 0", x.ifDivided(0), 0);
        PledgedLoans y = withSurplus();
        due("no days went by", y.ifDivided(0), 0);
        y.payOut(5, 50);
        y.pass(1);
        due("all of it to one", y.ifDivided(0), 10);
        y.undo();
        y.payOut(0, 99);
        y.pass(1);
        due("all of it for one share day", y.ifDivided(0), 10);
        due("dividend() of it", y.dividend(), 10);
        due("refused", y.count(9), 0);
        PledgedLoans z = union(90000, 90000, 90000);
        z.set(0, 100);
        z.borrow(0, 9999, 1);
        passAll(z, 1111);
        due("999 times 99990000 share days of three", z.ifDivided(2), 333);

        says(27, "Throws `IndexOutOfBoundsException` if there is no such member");
        dueThrowsForMembers(x, "ifDivided", x::ifDivided);
        dueThrowsForMembers(z, "ifDivided", z::ifDivided);
    }

    private static void riskiest() {
        says(28, "Finds the member for whom the most is at stake for others.");
        PledgedLoans x = union(100, 100, 100, 0, 0, 1000);
        x.pledge(5, 1, 50);
        x.pledge(5, 2, 50);
        x.borrow(1, 110, 1);
        x.borrow(2, 111, 1);
        due("11 rather than 10", x.riskiest(), 2);
        dueLook(x, "riskiest", x::riskiest);

        says(28, "Returns the member with a loan of whose rest the most is not held by the member's shares that are "
            + "left, of several the lowest; NONE if there is none of whom anything is not held so.");
        x.repay(2, 1);
        due("10 each", x.riskiest(), 1);
        x.repay(1, 1);
        due("9 and 10", x.riskiest(), 2);
        x.repay(2, 9);
        x.repay(1, 8);
        due("1 each", x.riskiest(), 1);
        x.repay(1, 1);
        due("0 and 1", x.riskiest(), 2);
        x.repay(2, 1);
        due("0 each", x.riskiest(), NONE);
        x.pledge(1, 3, 1);
        due("by a share that is pledged", x.riskiest(), 1);
        due("without loans", union(10).riskiest(), NONE);
        PledgedLoans y = union(10, 10);
        y.pledge(0, 1, 10);
        due("all pledged, without a loan", y.riskiest(), NONE);
        PledgedLoans held = union(1000, 100, 20);
        held.pledge(2, 0, 1);
        held.pledge(2, 1, 2);
        held.borrow(0, 1001, 1);
        held.borrow(1, 102, 1);
        due("2 of a rest of 102 rather than 1 of 1001", held.riskiest(), 1);
        PledgedLoans first = lent(101, 1);
        due("member 0", first.riskiest(), 0);
        first.week();
        due("fallen due", first.riskiest(), NONE);
        PledgedLoans last = union(10, 0, 0, 0, 0, 10);
        last.pledge(0, 5, 1);
        last.borrow(5, 11, 1);
        due("member 5", last.riskiest(), 5);
        PledgedLoans six = union(10, 10, 10, 10, 10, 10);
        for (int member = 0; member < 6; member++) {
            six.pledge(member, (member + 1) % 6, 5);
        }
        for (int member = 0; member < 6; member++) {
            six.borrow(member, 6, 1);
        }
        due("loans", six.count(4), 6);
        due("the lowest of six", six.riskiest(), 0);
    }

    private static void lentShare() {
        says(29, "Returns how much of the shares is lent.");
        PledgedLoans x = union(30, 40);
        x.borrow(0, 10, 1);
        x.borrow(1, 13, 1);
        dueShare("lentShare()", x.lentShare(), 23.0 / 70.0);
        dueLook(x, "lentShare", () -> (long) x.lentShare());

        says(29, "Returns count(3) as a double, divided by count(2); 0.0 without shares.");
        dueShare("without shares", new PledgedLoans().lentShare(), 0.0);
        dueShare("without loans", union(30).lentShare(), 0.0);
        PledgedLoans one = union(1);
        one.borrow(0, 1, 1);
        dueShare("the only share lent", one.lentShare(), 1.0);
        PledgedLoans y = lent(100);
        dueShare("all lent", y.lentShare(), 1.0);
        y.week();
        dueShare("no shares are left", y.lentShare(), 0.0);
        PledgedLoans z = union(90000, 90000, 90000, 90000, 90000, 90000);
        z.borrow(5, 1, 1);
        dueShare("the least", z.lentShare(), 1.0 / 540000.0);
    }

    private static void digest() {
        says(30, "Computes a hash of the whole state.");
        PledgedLoans x = new PledgedLoans();
        long before = x.digest();
        due("again", x.digest(), before);
        x.append('w');
        due("by a character in the buffer", x.digest() != before ? 1 : 0, 1);

        says(30, "The hash starts at 3607. For each value v of the following list, in order, the hash becomes 31 * hash "
            + "+ v, in long arithmetic with overflow.");
        due("of a new object", new PledgedLoans().digest(), hashOf(new PledgedLoans(), 0, 0, ""));

        says(30, "The values are: count(0) to count(11); the settings 0 and 1; for each member the properties 0 to 9, "
            + "pledged for each member, greatest with 0, then with 1, guarantors for 500 and for 5000, each with 0, "
            + "then with 1, weeksLeft with 0, then with 1, and ifDivided; riskiest; the bits of lentShare (as "
            + "Double.doubleToLongBits); for each slot 1 if it has a snapshot, otherwise 0; the length of the buffer "
            + "and each of its character codes.");
        PledgedLoans y = union(499, 9000, 30, 0, 500, 501);
        y.set(0, 90);
        y.set(1, 2);
        y.pledge(1, 0, 500);
        y.pledge(0, 1, 3);
        y.borrow(0, 800, 9);
        y.borrow(2, 30, 4);
        y.pass(9);
        y.week();
        y.repay(2, 1);
        due("of loans and pledges", y.digest(), hashOf(y, 0, 0, ""));
        y.keep(1);
        due("with slot 1", y.digest(), hashOf(y, 0, 1, ""));
        y.keep(0);
        due("with both slots", y.digest(), hashOf(y, 1, 1, ""));
        type(y, "!~w");
        due("with three characters", y.digest(), hashOf(y, 1, 1, "!~w"));
        String full = "w;+0:5;w;w;w;w;w;w;w;w;w;w;w;w;w;w;w;w;w;w;w;w;w;w;w;w;w;w;";
        y.clearBuffer();
        type(y, full + full.substring(0, 60 - full.length()));
        due("with 60 characters", y.digest(), hashOf(y, 1, 1, full + full.substring(0, 60 - full.length())));
        for (int shares : new int[] {499, 500, 501, 4999, 5000, 5001}) {
            PledgedLoans near = union(shares, 9000, 9000);
            due("with a cover of " + shares, near.digest(), hashOf(near, 0, 0, ""));
        }
        PledgedLoans all = lent(100);
        due("with the share 1.0", all.digest(), hashOf(all, 0, 0, ""));
        PledgedLoans least = union(90000, 90000, 90000, 90000, 90000, 90000);
        least.borrow(5, 1, 1);
        due("with the share 1.0 / 540000.0", least.digest(), hashOf(least, 0, 0, ""));

        says(30, "Returns the hash.");
        PledgedLoans slot = new PledgedLoans();
        slot.keep(0);
        due("with slot 0", slot.digest(), hashOf(slot, 1, 0, ""));
        due("slot 0 tells 31 times what slot 1 tells, 31 before the length",
            slot.digest() - new PledgedLoans().digest(), 31 * 31);
    }

    /** The hash of the document's list, each value told by the other calls. */
    private static long hashOf(PledgedLoans x, int slot0, int slot1, String text) {
        long hash = 3607;
        for (int what = 0; what <= 11; what++) {
            hash = 31 * hash + x.count(what);
        }
        hash = 31 * hash + x.setting(0);
        hash = 31 * hash + x.setting(1);
        for (int member = 0; member < 6; member++) {
            hash = hashOfMember(x, member, hash);
        }
        hash = 31 * hash + x.riskiest();
        hash = 31 * hash + Double.doubleToLongBits(x.lentShare());
        hash = 31 * hash + slot0;
        hash = 31 * hash + slot1;
        hash = 31 * hash + text.length();
        for (char code : text.toCharArray()) {
            hash = 31 * hash + code;
        }
        return hash;
    }

    private static long hashOfMember(PledgedLoans x, int member, long before) {
        long hash = before;
        for (int what = 0; what <= 9; what++) {
            hash = 31 * hash + x.memberOf(member, what);
        }
        for (int each = 0; each < 6; each++) {
            hash = 31 * hash + x.pledged(member, each);
        }
        hash = 31 * hash + x.greatest(member, 0);
        hash = 31 * hash + x.greatest(member, 1);
        for (int amount : new int[] {500, 5000}) {
            hash = 31 * hash + x.guarantors(member, amount, 0);
            hash = 31 * hash + x.guarantors(member, amount, 1);
        }
        hash = 31 * hash + x.weeksLeft(member, 0);
        hash = 31 * hash + x.weeksLeft(member, 1);
        return 31 * hash + x.ifDivided(member);
    }
}
