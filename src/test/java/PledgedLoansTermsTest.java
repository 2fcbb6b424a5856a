import java.io.IOException;
import java.util.ArrayList;
import java.util.List;

/** Each sentence of the document ahead of its promises, "Terms" with all below it, at its edges. */
public final class PledgedLoansTermsTest extends Sentences {
    private static final String DIGITS = "0123456789";
    private static final String FROM_1 = "123456789";
    private static final String KINDS = "+-pbrw";

    public static void main(String[] args) throws IOException {
        readDocument();
        calls();
        numbers();
        pledges();
        loanOfMember();
        free();
        till();
        reasons();
        tillAsReason();
        fee();
        given();
        paidBack();
        week();
        fallsDue();
        takenFrom();
        shareDays();
        dividends();
        settings();
        buffer();
        orders();
        numbersInOrders();
        kindsOfOrders();
        pledgeOrders();
        loanOrders();
        reading();
        snapshots();
        savedStates();
        throwingChangesNothing();
        firstException();
        none();
        finish(true);
    }

    private static void calls() {
        term(2, "An object is used for at most 512 calls after it has been made; what later calls answer is free.");
        PledgedLoans x = new PledgedLoans();
        for (int i = 1; i <= 511; i++) {
            due("call " + i, x.payIn(3, 1), i);
        }
        due("call 512", x.payIn(3, 1), 512);
        PledgedLoans y = lent(150, 50);
        long first = y.digest();
        for (int i = 2; i < 512; i++) {
            y.digest();
        }
        due("call 512", y.digest(), first);
    }

    // ---- members, pledges

    private static void numbers() {
        term(6, "All numbers are integers, but for a share; divisions are rounded down.");
        PledgedLoans x = union(149);
        x.borrow(0, 149, 1);
        due("the fee of 149, 2.98", x.count(1), 2);
        PledgedLoans y = union(3);
        y.borrow(0, 1, 1);
        dueShare("lentShare() of a third", y.lentShare(), 1.0 / 3.0);

        term(1, "There are 6 members, numbered from 0, each with shares, at first none (0).");
        PledgedLoans z = new PledgedLoans();
        for (int member = 0; member < 6; member++) {
            due("shares of " + member + " at first", z.memberOf(member, 0), 0);
            due("payIn of " + member, z.payIn(member, member + 1), member + 1);
        }
        dueThrows(z, INDEX, "memberOf(-1, 0)", () -> z.memberOf(-1, 0));
        dueThrows(z, INDEX, "memberOf(6, 0)", () -> z.memberOf(6, 0));
    }

    private static void pledges() {
        term(20, "A member can pledge shares for another member: of each member for each other one an amount is "
            + "pledged, at first 0.");
        PledgedLoans x = union(300, 300, 300, 300, 300, 300);
        for (int member = 0; member < 6; member++) {
            for (int other = 0; other < 6; other++) {
                due("pledged at first", x.pledged(member, other), 0);
                if (other != member) {
                    x.pledge(member, other, 1 + 6 * member + other);
                }
            }
        }
        for (int member = 0; member < 6; member++) {
            for (int other = 0; other < 6; other++) {
                due("pledged(" + member + ", " + other + ")", x.pledged(member, other),
                    other == member ? 0 : 1 + 6 * member + other);
            }
        }

        term(19, "The own shares of a member, that are left, are the shares less all that this member has pledged.");
        PledgedLoans y = union(100);
        due("cover without pledges", y.memberOf(0, 3), 100);
        y.pledge(0, 1, 99);
        due("cover with one share left", y.memberOf(0, 3), 1);
        y.pledge(0, 5, 1);
        due("cover with none left", y.memberOf(0, 3), 0);
        due("shares", y.memberOf(0, 0), 100);

        term(19, "The cover of a member is these, and all that others have pledged for the member, together.");
        PledgedLoans z = union(10, 20, 30, 40, 50, 60);
        for (int other = 1; other < 6; other++) {
            z.pledge(other, 0, 10 + 10 * other);
        }
        due("cover by all others", z.memberOf(0, 3), 210);
        z.pledge(0, 1, 10);
        due("cover by others alone", z.memberOf(0, 3), 200);
        due("cover of another, who pledged all", z.memberOf(1, 3), 10);
    }

    private static void loanOfMember() {
        term(6, "A member has a loan, or none.");
        PledgedLoans x = union(10, 10, 10, 10, 10, 10);
        for (int member = 0; member < 6; member++) {
            due("loans", x.count(4), member);
            due("part without a loan", x.memberOf(member, 7), NONE);
            due("a loan", x.borrow(member, 5, 1), 0);
            due("a second one", x.borrow(member, 1, 1), 1);
        }
        due("one loan of each", x.count(4), 6);

        term(19, "A loan has a rest that is owed, a part that is to be paid in each week, what was paid in this week, "
            + "and misses.");
        PledgedLoans y = union(100);
        y.borrow(0, 100, 3);
        y.week();
        y.repay(0, 33);
        due("rest", y.memberOf(0, 6), 67);
        due("part", y.memberOf(0, 7), 34);
        due("paid", y.memberOf(0, 8), 33);
        due("misses", y.memberOf(0, 9), 1);
    }

    private static void free() {
        term(3, "What is free of a member's shares is what is left of them, less as much of the rest of the member's "
            + "loan as is not held by pledges of others (that is: the rest less all that is pledged for the member, "
            + "if this is above 0).");
        freeWith(0, 100);
        freeWith(149, 100);
        freeWith(150, 100);
        freeWith(151, 99);
        freeWith(249, 1);
        freeWith(250, 0);
        PledgedLoans x = union(100, 500);
        x.pledge(0, 2, 40);
        due("free without a loan", x.memberOf(0, 4), 60);
        x.pledge(1, 0, 150);
        due("what others pledge is not free", x.memberOf(0, 4), 60);
        x.borrow(0, 151, 1);
        due("free of what is left", x.memberOf(0, 4), 59);
    }

    /** Two others pledge 150 together for member 0, who has 100 shares. */
    private static void freeWith(int rest, int want) {
        PledgedLoans x = union(100, 500, 500);
        x.pledge(1, 0, 70);
        x.pledge(2, 0, 80);
        if (rest > 0) {
            due("borrow", x.borrow(0, rest, 1), 0);
        }
        due("free with the rest " + rest, x.memberOf(0, 4), want);
        due("payOut of one more", x.payOut(0, want + 1), 1);
        due("pledge of one more", x.pledge(0, 3, want + 1), NONE);
        if (want > 0) {
            due("pledge of all that is free", x.pledge(0, 3, want), want);
            x.undo();
            due("payOut of all that is free", x.payOut(0, want), 0);
        }
        due("free then", x.memberOf(0, 4), 0);
    }

    // ---- the till, loans

    private static void till() {
        term(21, "The union has a till and a surplus, both at first 0.");
        PledgedLoans x = new PledgedLoans();
        due("till", x.count(0), 0);
        due("surplus", x.count(1), 0);

        term(21, "Shares that are paid in come into the till, those that are paid out go from it.");
        x.payIn(0, 9999);
        due("till", x.count(0), 9999);
        x.payIn(5, 1);
        due("till", x.count(0), 10000);
        x.payOut(0, 9999);
        due("till", x.count(0), 1);
        x.payOut(5, 1);
        due("till", x.count(0), 0);
        x.payOut(5, 1);
        due("till, refused", x.count(0), 0);
        due("surplus", x.count(1), 0);
    }

    private static void reasons() {
        term(6, "A loan of an amount over some weeks is refused for the first of these reasons that is so:");
        PledgedLoans x = union(100, 0, 10);
        x.pledge(2, 4, 5);
        x.borrow(0, 60, 6);
        force(x, "till", 0);
        due("1, 2, 3 and 4 are so", x.borrow(0, 9999, 1), 1);
        due("1 and 4 are so", x.borrow(0, 1, 1), 1);
        due("2, 3 and 4 are so", x.borrow(2, 31, 1), 2);
        due("3 and 4 are so", x.borrow(2, 6, 1), 3);
        due("4 is so", x.borrow(2, 5, 1), 4);
        due("refused", x.count(9), 5);
        due("loans", x.count(4), 1);

        term(6, "1: the member has a loan;");
        PledgedLoans y = union(100);
        y.borrow(0, 50, 1);
        y.repay(0, 49);
        due("with a rest of 1", y.borrow(0, 1, 1), 1);
        y.repay(0, 1);
        due("with no rest", y.borrow(0, 1, 1), 0);

        term(6, "2: the amount is more than three times the member's shares;");
        due("three times 100", backed(100).borrow(0, 300, 1), 0);
        due("more than three times 100", backed(100).borrow(0, 301, 1), 2);
        due("three times 1", backed(1).borrow(0, 3, 1), 0);
        due("more than three times 1", backed(1).borrow(0, 4, 1), 2);
        due("more than three times 0", backed(0).borrow(0, 1, 1), 2);
        due("more than three times 3332", backed(3332).borrow(0, 9997, 1), 2);
        due("three times 3333", backed(3333).borrow(0, 9999, 1), 0);
        PledgedLoans z = backed(100);
        z.pledge(0, 5, 100);
        due("shares that are pledged count", z.borrow(0, 300, 1), 0);

        term(6, "3: the amount is more than the member's cover;");
        due("the cover", union(100).borrow(0, 100, 1), 0);
        due("more than the cover", union(100).borrow(0, 101, 1), 3);
        PledgedLoans v = union(100, 51);
        v.pledge(1, 0, 51);
        v.pledge(0, 1, 1);
        due("more than the cover with pledges", v.borrow(0, 151, 1), 3);
        due("the cover with pledges", v.borrow(0, 150, 1), 0);
    }

    /** Member 0 with these shares, and more than enough that others pledge. */
    private static PledgedLoans backed(int shares) {
        PledgedLoans x = union(shares, 20000);
        x.pledge(1, 0, 9999);
        x.pledge(1, 0, 9999);
        return x;
    }

    private static void tillAsReason() {
        term(6, "4: the till has less than the amount without the fee.");
        PledgedLoans x = union(1000);
        force(x, "till", 979);
        due("whyNot with one too little", x.whyNot(0, 1000), 4);
        due("borrow with one too little", x.borrow(0, 1000, 1), 4);
        due("greatest(0, 0), 998 without its fee 19", x.greatest(0, 0), 998);
        due("greatest(0, 1)", x.greatest(0, 1), 998);
        force(x, "till", 980);
        due("whyNot with just enough", x.whyNot(0, 1000), 0);
        due("borrow with just enough", x.borrow(0, 1000, 1), 0);
        due("till", x.count(0), 0);
        PledgedLoans y = union(49);
        force(y, "till", 48);
        due("without a fee, one too little", y.borrow(0, 49, 1), 4);
        due("refused", y.count(9), 1);
    }

    private static void fee() {
        term(6, "The fee is the amount times setting 0, divided by 1000.");
        feeOf(49, 20, 0);
        feeOf(50, 20, 1);
        feeOf(99, 20, 1);
        feeOf(100, 20, 2);
        feeOf(9999, 20, 199);
        feeOf(9999, 0, 0);
        feeOf(999, 1, 0);
        feeOf(1000, 1, 1);
        feeOf(9, 100, 0);
        feeOf(10, 100, 1);
        feeOf(9999, 100, 999);
    }

    private static void feeOf(int amount, int thousandths, int want) {
        PledgedLoans x = union(9999);
        x.set(0, thousandths);
        x.borrow(0, amount, 1);
        due("surplus by " + amount + " at " + thousandths, x.count(1), want);
        due("till by " + amount + " at " + thousandths, x.count(0), 9999 - amount + want);
    }

    private static void given() {
        term(6, "Otherwise the amount without the fee goes from the till, the fee comes to the surplus, the rest is "
            + "the amount, the part is the amount divided by the weeks, rounded up; nothing was paid in this week, "
            + "and misses are 0.");
        PledgedLoans x = union(100, 100);
        x.borrow(0, 100, 10);
        due("till", x.count(0), 200 - 98);
        due("surplus", x.count(1), 2);
        due("rest", x.memberOf(0, 6), 100);
        x.borrow(1, 50, 1);
        due("till", x.count(0), 200 - 98 - 49);
        due("surplus of two", x.count(1), 3);
        x.week();
        x.repay(0, 100);
        x.borrow(0, 100, 10);
        due("paid, after a loan that was paid back", x.memberOf(0, 8), 0);
        due("misses, after a loan that was missed", x.memberOf(0, 9), 0);
        partOf(1, 1, 1);
        partOf(1, 52, 1);
        partOf(52, 52, 1);
        partOf(53, 52, 2);
        partOf(103, 52, 2);
        partOf(104, 52, 2);
        partOf(105, 52, 3);
        partOf(9999, 1, 9999);
        partOf(9999, 2, 5000);
        partOf(9999, 52, 193);
    }

    private static void partOf(int amount, int weeks, int want) {
        PledgedLoans x = union(9999);
        x.borrow(0, amount, weeks);
        due("part of " + amount + " over " + weeks, x.memberOf(0, 7), want);
    }

    private static void paidBack() {
        term(7, "What is paid back comes into the till; the rest becomes less by it.");
        PledgedLoans x = union(100);
        x.borrow(0, 100, 1);
        x.repay(0, 1);
        due("till", x.count(0), 2 + 1);
        due("rest", x.memberOf(0, 6), 99);
        x.repay(0, 99);
        due("till", x.count(0), 2 + 100);
        due("surplus", x.count(1), 2);

        term(7, "A loan with the rest 0 is gone.");
        PledgedLoans y = union(100);
        y.borrow(0, 100, 2);
        y.repay(0, 99);
        due("loans with a rest of 1", y.count(4), 1);
        due("part with a rest of 1", y.memberOf(0, 7), 50);
        y.repay(0, 1);
        due("loans", y.count(4), 0);
        for (int what = 7; what <= 9; what++) {
            due("memberOf(0, " + what + ")", y.memberOf(0, what), NONE);
        }
        due("weeksLeft(0, 0)", y.weeksLeft(0, 0), 0);
        due("weeksLeft(0, 1)", y.weeksLeft(0, 1), 0);
        due("nothing to pay back", y.repay(0, 1), NONE);
        due("all is free", y.memberOf(0, 4), 100);
        due("no reason against a loan", y.whyNot(0, 100), 0);
    }

    // ---- weeks

    private static void week() {
        term(8, "When a week ends, for each member with a loan, by ascending numbers: if what was paid in this week is "
            + "less than the part, misses become 1 more, otherwise 0; then what was paid becomes 0.");
        for (int member = 0; member < 6; member++) {
            missesAfter(member, 0, 2);
            missesAfter(member, 9, 2);
            missesAfter(member, 10, 0);
            missesAfter(member, 11, 0);
        }
        PledgedLoans x = union(100, 100, 100, 100, 100, 100);
        for (int member = 0; member < 6; member++) {
            x.borrow(member, 100, 10);
            x.repay(member, member % 2 == 0 ? 9 : 10);
        }
        x.week();
        for (int member = 0; member < 6; member++) {
            due("misses of " + member + " among all", x.memberOf(member, 9), member % 2 == 0 ? 1 : 0);
        }
        PledgedLoans y = union(100);
        y.borrow(0, 100, 10);
        y.repay(0, 95);
        y.week();
        y.repay(0, 4);
        y.week();
        due("a miss, though the rest was less than the part", y.memberOf(0, 9), 1);
        PledgedLoans z = union(100);
        z.week();
        due("without a loan", z.memberOf(0, 9), NONE);

        term(8, "(A loan that was paid back whole in the week is gone, and not asked.)");
        PledgedLoans v = lent(100);
        v.repay(0, 100);
        due("week", v.week(), 0);
        PledgedLoans w = union(100);
        w.set(1, 1);
        w.borrow(0, 100, 2);
        w.repay(0, 60);
        due("kept", w.week(), 0);
        w.repay(0, 40);
        due("paid back by less than the part", w.week(), 0);
        due("fallen due", w.count(6), 0);
        due("shares", w.memberOf(0, 0), 100);
        due("misses", w.memberOf(0, 9), NONE);
    }

    /** The second week of a loan whose first was missed, with a part of 10. */
    private static void missesAfter(int member, int paid, int want) {
        PledgedLoans x = new PledgedLoans();
        x.payIn(member, 100);
        x.borrow(member, 100, 10);
        x.week();
        if (paid > 0) {
            x.repay(member, paid);
        }
        due("week", x.week(), 0);
        due("misses of " + member + " with " + paid + " paid", x.memberOf(member, 9), want);
        due("paid then", x.memberOf(member, 8), 0);
    }

    private static void fallsDue() {
        term(8, "If misses are as many as setting 1 tells then, or more, the loan falls due:");
        for (int misses = 1; misses <= 5; misses++) {
            PledgedLoans x = union(100);
            x.set(1, misses);
            x.borrow(0, 10, 2);
            for (int i = 1; i < misses; i++) {
                due("week " + i + " of " + misses, x.week(), 0);
                due("misses", x.memberOf(0, 9), i);
            }
            due("as many as " + misses, x.week(), 1);
        }
        PledgedLoans y = union(100);
        y.borrow(0, 100, 10);
        y.set(1, 5);
        y.week();
        y.week();
        y.week();
        due("setting 1 as it is then", y.memberOf(0, 9), 3);
        y.set(1, 1);
        due("a setting alone does nothing", y.count(4), 1);
        due("more than the setting tells", y.week(), 1);
        PledgedLoans z = union(100);
        z.borrow(0, 100, 10);
        z.week();
        z.week();
        z.set(1, 1);
        z.repay(0, 10);
        due("misses are 0 by a week that is kept", z.week(), 0);
        due("misses", z.memberOf(0, 9), 0);
    }

    private static void takenFrom() {
        term(8, "of the rest as much as can be is taken from the member's shares that are left, then from the pledges "
            + "for the member, by ascending members who pledged: their shares and their pledges become less by it.");
        taken(1, 99, 0, 0);
        taken(99, 1, 0, 0);
        taken(100, 0, 0, 0);
        taken(101, 0, 1, 0);
        taken(149, 0, 49, 0);
        taken(150, 0, 50, 0);
        taken(151, 0, 50, 1);
        taken(199, 0, 50, 49);
        taken(200, 0, 50, 50);
        PledgedLoans x = union(0, 60, 60, 60, 60, 60);
        x.pledge(5, 3, 50);
        x.pledge(2, 3, 50);
        x.pledge(3, 0, 20);
        x.set(1, 1);
        x.borrow(3, 101, 1);
        due("week", x.week(), 1);
        due("shares of 3, of whom 20 are pledged", x.memberOf(3, 0), 20);
        due("pledge of 3", x.pledged(3, 0), 20);
        due("shares of 2, the first who pledged", x.memberOf(2, 0), 10);
        due("pledge of 2", x.pledged(2, 3), 0);
        due("shares of 5", x.memberOf(5, 0), 49);
        due("pledge of 5", x.pledged(5, 3), 39);
        due("shares of 1, who pledged nothing", x.memberOf(1, 0), 60);
        PledgedLoans all = union(10, 10, 10, 10, 10, 10);
        all.set(1, 1);
        for (int member = 0; member < 5; member++) {
            all.pledge(member, 5, 7);
        }
        all.borrow(5, 10 + 7 + 7 + 1, 1);
        all.week();
        int[] left = {3, 3, 9, 10, 10, 0};
        for (int member = 0; member < 6; member++) {
            due("shares of " + member + " of five who pledged for 5", all.memberOf(member, 0), left[member]);
            due("pledge of " + member, all.pledged(member, 5), Math.max(0, left[member] - 3));
        }

        term(8, "The loan is gone then.");
        PledgedLoans y = lent(120, 50);
        due("week", y.week(), 1);
        due("loans", y.count(4), 0);
        due("rests", y.count(3), 0);
        due("rest", y.memberOf(0, 6), 0);
        for (int what = 7; what <= 9; what++) {
            due("memberOf(0, " + what + ")", y.memberOf(0, what), NONE);
        }
        due("the next week", y.week(), 0);
        due("fallen due", y.count(6), 1);

        term(8, "(The till stays; the cover is never less than the rest, so that nothing is lost.)");
        PledgedLoans z = lent(200, 50, 50);
        int till = z.count(0);
        due("cover", z.memberOf(0, 3), z.memberOf(0, 6));
        z.week();
        due("till", z.count(0), till);
        due("all shares are less by the rest", z.count(2), 2100 - 200);
        due("cover then", z.memberOf(0, 3), 0);
        due("till and surplus", z.count(0), z.count(2) + z.count(1));
    }

    /** 100 own shares; 1 and 2 pledge 50 each. */
    private static void taken(int rest, int own, int ofFirst, int ofSecond) {
        PledgedLoans x = lent(rest, 50, 50);
        x.week();
        String with = " with the rest " + rest;
        due("own shares" + with, x.memberOf(0, 0), own);
        due("shares of 1" + with, x.memberOf(1, 0), 1000 - ofFirst);
        due("pledge of 1" + with, x.pledged(1, 0), 50 - ofFirst);
        due("shares of 2" + with, x.memberOf(2, 0), 1000 - ofSecond);
        due("pledge of 2" + with, x.pledged(2, 0), 50 - ofSecond);
    }

    // ---- days, dividends

    private static void shareDays() {
        term(9, "Each member has share days: for each day that went by since the latest dividend, the shares as they "
            + "were on it, added up.");
        PledgedLoans x = union(10, 7);
        due("at first", x.memberOf(0, 5), 0);
        x.pass(1);
        due("one day", x.memberOf(0, 5), 10);
        x.payIn(0, 5);
        due("shares alone are no share days", x.memberOf(0, 5), 10);
        x.pledge(0, 1, 15);
        x.pass(2);
        due("two days more, with pledged shares", x.memberOf(0, 5), 10 + 30);
        x.unpledge(0, 1, 15);
        x.payOut(0, 15);
        x.pass(99);
        due("days without shares", x.memberOf(0, 5), 40);
        due("of another", x.memberOf(1, 5), 7 * 102);
        due("of one without shares", x.memberOf(5, 5), 0);
        x.dividend();
        due("since the dividend", x.memberOf(1, 5), 0);
        x.pass(1);
        due("a day since the dividend", x.memberOf(1, 5), 7);
        x.week();
        due("no day by a week", x.memberOf(1, 5), 7);
    }

    private static void dividends() {
        term(10, "A dividend shares the surplus out: each member gets the surplus times the member's share days, "
            + "divided by the share days of all, as shares (the till stays); the surplus becomes less by all of this; "
            + "and all share days become 0.");
        PledgedLoans x = thirds(100);
        due("surplus", x.count(1), 10);
        due("10 to three", x.dividend(), 9);
        for (int member = 0; member < 6; member++) {
            due("shares of " + member, x.memberOf(member, 0), member < 3 ? 103 : 0);
            due("share days of " + member, x.memberOf(member, 5), 0);
        }
        due("surplus that is left", x.count(1), 1);
        due("till", x.count(0), 310);
        PledgedLoans y = thirds(90);
        due("9 to three", y.dividend(), 9);
        due("nothing is left", y.count(1), 0);
        PledgedLoans z = thirds(20);
        due("2 to three", z.dividend(), 0);
        due("all is left", z.count(1), 2);
        due("share days", z.memberOf(2, 5), 0);
        due("not refused", z.count(9), 0);
        PledgedLoans v = thirds(30);
        due("3 to three", v.dividend(), 3);
        due("shares", v.memberOf(2, 0), 101);

        term(10, "It is refused if all share days are 0.");
        PledgedLoans w = union(1);
        due("no days", w.dividend(), NONE);
        due("refused", w.count(9), 1);
        w.pass(1);
        due("one share day", w.dividend(), 0);
        due("no share days again", w.dividend(), NONE);
        due("refused", w.count(9), 2);
        PledgedLoans u = new PledgedLoans();
        u.pass(99);
        due("days without shares", u.dividend(), NONE);
        due("refused", u.count(9), 1);
        for (int member = 0; member < 6; member++) {
            PledgedLoans t = new PledgedLoans();
            t.payIn(member, 1);
            t.pass(1);
            due("one share day of " + member, t.dividend(), 0);
        }
    }

    /** Three members with 100 shares and 100 share days each; a fee of a tenth of the amount is the surplus. */
    private static PledgedLoans thirds(int amount) {
        PledgedLoans x = union(100, 100, 100);
        x.set(0, 100);
        x.borrow(0, amount, 1);
        x.repay(0, amount);
        x.pass(1);
        return x;
    }

    // ---- settings

    private static void settings() {
        term(11, "0: the fee in thousandths, 0 to 100, at first 20;");
        PledgedLoans x = new PledgedLoans();
        due("at first", x.setting(0), 20);
        due("lowest", x.set(0, 0), 20);
        due("highest", x.set(0, 100), 0);
        due("it is", x.setting(0), 100);
        dueThrows(x, ARGUMENT, "set(0, -1)", () -> x.set(0, -1));
        dueThrows(x, ARGUMENT, "set(0, 101)", () -> x.set(0, 101));

        term(11, "1: misses with which a loan falls due, 1 to 5, at first 3.");
        due("at first", x.setting(1), 3);
        due("lowest", x.set(1, 1), 3);
        due("highest", x.set(1, 5), 1);
        due("it is", x.setting(1), 5);
        dueThrows(x, ARGUMENT, "set(1, 0)", () -> x.set(1, 0));
        dueThrows(x, ARGUMENT, "set(1, 6)", () -> x.set(1, 6));
    }

    // ---- input text

    private static void buffer() {
        term(12, "The buffer has at most 60 characters.");
        PledgedLoans x = new PledgedLoans();
        for (int length = 1; length <= 60; length++) {
            due("append", x.append('w'), length);
        }
        dueThrows(x, STATE, "append of character 61", () -> x.append('w'));
        due("clearBuffer", x.clearBuffer(), 60);
        due("append", x.append('w'), 1);
    }

    /** The text is read as far as told; run() takes it, or throws. */
    private static void text(String text, int error, boolean isOrders) {
        PledgedLoans x = new PledgedLoans();
        type(x, text);
        due("firstError() of " + text, x.firstError(), error);
        if (isOrders) {
            x.run();
            due("clearBuffer() after run() of " + text, x.clearBuffer(), 0);
        } else {
            dueThrows(x, ARGUMENT, "run() of " + text, x::run);
            due("clearBuffer() after run() of " + text, x.clearBuffer(), text.length());
        }
    }

    /** After the text just these signs are no syntax errors. */
    private static void follow(String text, String signs) {
        for (int code = 33; code <= 126; code++) {
            PledgedLoans x = new PledgedLoans();
            type(x, text);
            x.append(code);
            due("firstError() of " + text + (char) code, x.firstError(),
                text.length() + (signs.indexOf(code) >= 0 ? 1 : 0));
        }
    }

    private static void orders() {
        term(15, "Orders as a text are one or more of these with \";\" between them,");
        text("", 0, false);
        text("w", 1, true);
        text(";", 0, false);
        text("w;", 2, false);
        text("w;w", 3, true);
        text(";w", 0, false);
        text("w;;w", 2, false);
        text("ww", 1, false);
        text("w;w;", 4, false);
        follow("", KINDS);
        follow("w;", KINDS);
        follow("+0:1;", KINDS);
        follow("p0>1:9999;", KINDS);
        follow("b0:9999/52;", KINDS);
        StringBuilder thirty = new StringBuilder("w");
        for (int i = 1; i < 30; i++) {
            thirty.append(";w");
        }
        text(thirty.toString(), 59, true);
    }

    private static void numbersInOrders() {
        term(14, "where a member is a digit, 0 to 5,");
        for (String kind : new String[] {"+", "-", "p", "b", "r", "w;r"}) {
            follow(kind, "012345");
        }
        text("+0:1", 4, true);
        text("+5:1", 4, true);
        text("+6:1", 1, false);
        text("+/:1", 1, false);
        text("+05:1", 2, false);
        text("+", 1, false);

        term(14, "and an amount a number from 1 to 9999 without leading zeros:");
        for (String order : new String[] {"+0:", "-1:", "r2:"}) {
            follow(order, FROM_1);
            follow(order + "1", DIGITS + ";");
            follow(order + "10", DIGITS + ";");
            follow(order + "999", DIGITS + ";");
            follow(order + "1000", ";");
            follow(order + "9999", ";");
            text(order, 3, false);
            text(order + "0", 3, false);
            text(order + "01", 3, false);
            text(order + "1", 4, true);
            text(order + "9999", 7, true);
            text(order + "10000", 7, false);
        }
    }

    private static void kindsOfOrders() {
        term(15, "\"+\", a member, \":\", and an amount (paid in);");
        follow("+3", ":");
        PledgedLoans x = new PledgedLoans();
        due("+5:9999", typeAndRun(x, "+5:9999"), 1);
        due("shares", x.memberOf(5, 0), 9999);

        term(15, "\"-\", a member, \":\", and an amount (paid out);");
        follow("-3", ":");
        due("-5:9998", typeAndRun(x, "-5:9998"), 1);
        due("shares", x.memberOf(5, 0), 1);
        due("-5:2, more than there is", typeAndRun(x, "-5:2"), 0);

        term(15, "\"r\", a member, \":\", and an amount (paid back);");
        follow("r3", ":");
        x.borrow(5, 1, 1);
        due("r5:2, more than the rest", typeAndRun(x, "r5:2"), 0);
        due("r5:1", typeAndRun(x, "r5:1"), 1);
        due("loans", x.count(4), 0);

        term(15, "or \"w\" (the week ends).");
        follow("w", ";");
        due("w", typeAndRun(x, "w"), 1);
        due("weeks", x.count(7), 1);
    }

    private static void pledgeOrders() {
        term(14, "\"p\", a member, \">\", another member (the same digit is a syntax error), \":\", and an amount "
            + "(pledged for that other one);");
        follow("p3", ">");
        follow("p0>", "12345");
        follow("p3>", "01245");
        follow("p5>", "01234");
        follow("w;p5>", "01234");
        follow("p0>1", ":");
        follow("p0>1:", FROM_1);
        follow("p0>1:1", DIGITS + ";");
        follow("p0>1:1000", ";");
        text("p2>2:5", 3, false);
        text("p2>", 3, false);
        text("p2>1", 4, false);
        text("p2>1:", 5, false);
        text("p2>1:5", 6, true);
        text("p2:5", 2, false);
        PledgedLoans x = union(0, 0, 9999);
        due("p2>1:9999", typeAndRun(x, "p2>1:9999"), 1);
        due("pledged by 2 for 1", x.pledged(2, 1), 9999);
        due("pledged by 1 for 2", x.pledged(1, 2), 0);
    }

    private static void loanOrders() {
        term(14, "\"b\", a member, \":\", an amount, \"/\", and weeks, 1 to 52, without leading zeros (a loan);");
        follow("b3", ":");
        follow("b3:", FROM_1);
        follow("b3:1", DIGITS + "/");
        follow("b3:999", DIGITS + "/");
        follow("b3:1000", "/");
        follow("b3:1/", FROM_1);
        follow("b3:9999/4", DIGITS + ";");
        follow("b3:1/1", DIGITS + ";");
        follow("b3:1/5", "012;");
        follow("b3:1/6", ";");
        follow("b3:1/9", ";");
        follow("b3:1/10", ";");
        follow("b3:1/52", ";");
        text("b3:1", 4, false);
        text("b3:/1", 3, false);
        text("b3:1/", 5, false);
        text("b3:1/0", 5, false);
        text("b3:1/01", 5, false);
        text("b3:1/1", 6, true);
        text("b3:9999/52", 10, true);
        text("b3:9999/53", 9, false);
        text("b3:1/100", 7, false);
        text("b3:1/1/1", 6, false);
        text("+3:1/1", 4, false);
        PledgedLoans x = union(9999);
        due("b0:9999/52", typeAndRun(x, "b0:9999/52"), 1);
        due("part", x.memberOf(0, 7), 193);
        x.undo();
        due("b0:9999/1", typeAndRun(x, "b0:9999/1"), 1);
        due("part", x.memberOf(0, 7), 9999);
    }

    private static void reading() {
        term(14, "The buffer is read from left to right; a character is a syntax error if no orders as a text, of any "
            + "length, begin with the characters before it and this character.");
        text("w;+0:1;x;y", 7, false);
        text("x", 0, false);
        text("x;w", 0, false);
        text("W", 0, false);
        text("w!", 1, false);
        text("~", 0, false);
        String full = "w;w;w;w;w;w;w;w;w;w;w;w;w;w;w;w;w;w;w;w;w;w;w;w;w;w;w;w;";
        text(full + "w;w;", 60, false);
        text(full + "p0>1", 60, false);
        text(full + "b0:1", 60, false);
        text(full + "+0:1", 60, true);
        text(full + "p0>0", 59, false);
        text(full + "w;w?", 59, false);
    }

    // ---- snapshots, undo

    private static void snapshots() {
        term(17, "There are two slots; a snapshot is all but the buffer, the slots and the saved states.");
        PledgedLoans x = lent(120, 50);
        x.pass(9);
        x.keep(0);
        String kept = looks(x);
        changeAll(x);
        String changed = looks(x);
        x.keep(1);
        type(x, "w;");
        int saved = x.count(11);
        x.goBack(0);
        dueText("all that was kept in slot 0", looks(x), kept);
        due("saved states are not of it", x.count(11), Math.min(6, saved + 1));
        due("the buffer is not of it", x.clearBuffer(), 2);
        x.goBack(1);
        dueText("slot 1 is not of it", looks(x), changed);
        dueThrows(x, ARGUMENT, "keep(2)", () -> x.keep(2));
        dueThrows(x, ARGUMENT, "goBack(-1)", () -> x.goBack(-1));
        PledgedLoans y = union(5);
        y.keep(0);
        y.undo();
        y.goBack(0);
        due("saved states are as they are, not as they were", y.count(11), 1);
        y.undo();
        due("shares", y.memberOf(0, 0), 0);
    }

    /** Leaves no number as it was with lent(120, 50) after nine days. */
    private static void changeAll(PledgedLoans x) {
        x.payOut(5, 1);
        x.dividend();
        x.set(0, 7);
        x.week();
        x.set(1, 4);
        x.pass(3);
        x.payIn(0, 500);
        x.pledge(1, 0, 40);
        x.borrow(0, 300, 7);
        x.week();
        x.repay(0, 5);
        x.payIn(3, 40);
        x.borrow(3, 20, 2);
    }

    private static void savedStates() {
        term(18, "Each method that is marked \"undoable\" and does not throw an exception saves the state from before "
            + "it (also if it changes nothing, or is refused): all, also what is counted so far, but the buffer, the "
            + "slots and the saved states.");
        PledgedLoans x = lent(120, 50);
        x.pass(9);
        String before = looks(x);
        x.keep(1);
        type(x, "w;");
        x.payOut(5, 1);
        x.payIn(3, 7);
        x.undo();
        x.undo();
        dueText("all is undone, a refusal too", looks(x), before);
        due("the buffer is not undone", x.clearBuffer(), 2);
        due("the slots are not undone", x.goBack(1), 1);
        x.undo();
        int saved = x.count(11);
        x.set(0, 20);
        due("saved, though nothing is changed", x.count(11), saved + 1);
        dueThrows(x, ARGUMENT, "payIn that throws saves nothing", () -> x.payIn(0, 0));
        due("undo() goes to the state before set()", x.undo(), saved);
        type(x, "w");
        due("append() and clearBuffer() save nothing", x.clearBuffer() - 1 + x.count(11), saved);
        x.keep(0);
        due("keep() saves nothing", x.count(11), saved);
        PledgedLoans y = lent(120, 50);
        y.pass(9);
        dueUndoable(y, "week(), by which a loan falls due", y::week);
        dueUndoable(y, "dividend()", y::dividend);

        term(18, "At most 6 states are saved; the oldest one is dropped first.");
        PledgedLoans z = new PledgedLoans();
        for (int i = 1; i <= 8; i++) {
            z.payIn(0, 1);
            due("saved after " + i, z.count(11), Math.min(6, i));
        }
        for (int left = 5; left >= 0; left--) {
            due("undo", z.undo(), left);
            due("shares", z.memberOf(0, 0), 2 + left);
        }
        dueThrows(z, STATE, "a seventh undo()", z::undo);
        for (int i = 1; i <= 6; i++) {
            z.payIn(1, 1);
        }
        for (int left = 5; left >= 0; left--) {
            z.undo();
        }
        due("just six: none was dropped", z.memberOf(1, 0), 0);
    }

    // ---- exceptions

    /** Six saved states, a snapshot in slot 0, share days near their end, and a buffer that is full and no orders. */
    private static PledgedLoans rich() {
        PledgedLoans x = union(9999, 500);
        payAllIn(x, 4, 90000);
        x.keep(0);
        passAll(x, 1111);
        x.pledge(0, 1, 300);
        x.borrow(1, 700, 7);
        x.payOut(5, 1);
        x.repay(1, 10);
        force(x, "weeksEnded", 9999);
        x.set(1, 2);
        x.payIn(2, 20);
        for (int i = 0; i < 30; i++) {
            type(x, "w;");
        }
        return x;
    }

    /** What is to be seen now, after going back, and after each undo(); and the buffer. */
    private static String history(PledgedLoans x) {
        StringBuilder all = new StringBuilder(looks(x)).append(' ').append(x.digest());
        for (int left = x.count(11); left > 0; left--) {
            x.undo();
            all.append('\n').append(looks(x));
        }
        x.goBack(0);
        all.append('\n').append(looks(x)).append('\n').append(x.firstError());
        return all.append(' ').append(x.clearBuffer()).toString();
    }

    private static List<UnionCall> throwing() {
        List<UnionCall> all = new ArrayList<>(List.of(
            x -> x.payIn(6, 1), x -> x.payIn(2, 0), x -> x.payIn(2, 10000), x -> x.payOut(-1, 1),
            x -> x.payOut(2, 10000), x -> x.pledge(6, 1, 5), x -> x.pledge(0, 6, 5), x -> x.pledge(0, 0, 5),
            x -> x.pledge(0, 1, 0), x -> x.unpledge(-1, 1, 5), x -> x.unpledge(0, -1, 5), x -> x.unpledge(1, 1, 5),
            x -> x.unpledge(0, 1, 10000), x -> x.borrow(6, 1, 1), x -> x.borrow(2, 0, 1), x -> x.borrow(2, 1, 0),
            x -> x.borrow(2, 1, 53), x -> x.repay(-1, 1), x -> x.repay(1, 0), x -> x.week(), x -> x.pass(0)));
        all.addAll(List.of(
            x -> x.pass(100), x -> x.pass(1), x -> x.set(2, 1), x -> x.set(0, 101), x -> x.set(1, 0),
            x -> x.append(32), x -> x.append(127), x -> x.append(33), x -> x.run(), x -> x.keep(2), x -> x.keep(-1),
            x -> x.goBack(2), x -> x.goBack(1), x -> x.memberOf(6, 0), x -> x.memberOf(0, 10), x -> x.pledged(0, 6),
            x -> x.pledged(6, 0), x -> x.count(12), x -> x.setting(2), x -> x.whyNot(6, 1), x -> x.whyNot(0, 0)));
        all.addAll(List.of(
            x -> x.greatest(6, 0), x -> x.greatest(0, 2), x -> x.guarantors(6, 1, 0), x -> x.guarantors(0, 0, 0),
            x -> x.guarantors(0, 1, 2), x -> x.weeksLeft(6, 0), x -> x.weeksLeft(0, 2), x -> x.ifDivided(6)));
        return all;
    }

    private static void throwingChangesNothing() {
        term(18, "A call that throws an exception changes nothing (the buffer stays as it is, too).");
        String want = history(rich());
        int number = 0;
        for (UnionCall each : throwing()) {
            PledgedLoans x = rich();
            boolean threw = false;
            try {
                each.of(x);
            } catch (IndexOutOfBoundsException | IllegalArgumentException | IllegalStateException e) {
                threw = true;
            }
            due("throwing call " + number + " throws", threw ? 1 : 0, 1);
            dueText("all that is to be seen after throwing call " + number, history(x), want);
            number++;
        }
        PledgedLoans y = new PledgedLoans();
        dueThrows(y, STATE, "undo() with none", y::undo);
        due("saved states", y.count(11), 0);
    }

    private static void firstException() {
        term(18, "If several exceptions apply, the one that is named first in the throws clause is thrown.");
        PledgedLoans x = rich();
        dueThrows(x, INDEX, "payIn(6, 0)", () -> x.payIn(6, 0));
        dueThrows(x, INDEX, "payOut(-1, 10000)", () -> x.payOut(-1, 10000));
        dueThrows(x, INDEX, "pledge(6, 6, 0)", () -> x.pledge(6, 6, 0));
        dueThrows(x, INDEX, "pledge(0, 6, 0)", () -> x.pledge(0, 6, 0));
        dueThrows(x, INDEX, "unpledge(-1, -1, 0)", () -> x.unpledge(-1, -1, 0));
        dueThrows(x, INDEX, "unpledge(0, -1, 10000)", () -> x.unpledge(0, -1, 10000));
        dueThrows(x, INDEX, "borrow(6, 0, 0)", () -> x.borrow(6, 0, 0));
        dueThrows(x, INDEX, "borrow(6, 1, 53)", () -> x.borrow(6, 1, 53));
        dueThrows(x, INDEX, "repay(6, 0)", () -> x.repay(6, 0));
        dueThrows(x, ARGUMENT, "pass(100) with too many share days", () -> x.pass(100));
        dueThrows(x, INDEX, "set(2, -1)", () -> x.set(2, -1));
        dueThrows(x, INDEX, "set(-1, 1000)", () -> x.set(-1, 1000));
        dueThrows(x, ARGUMENT, "append(32) to a full buffer", () -> x.append(32));
        dueThrows(x, ARGUMENT, "goBack(2), where nothing is", () -> x.goBack(2));
        dueThrows(x, INDEX, "memberOf(6, 10)", () -> x.memberOf(6, 10));
        dueThrows(x, INDEX, "whyNot(6, 0)", () -> x.whyNot(6, 0));
        dueThrows(x, INDEX, "greatest(-1, 2)", () -> x.greatest(-1, 2));
        dueThrows(x, INDEX, "guarantors(6, 0, 2)", () -> x.guarantors(6, 0, 2));
        dueThrows(x, INDEX, "weeksLeft(-1, -1)", () -> x.weeksLeft(-1, -1));
    }

    private static void none() {
        term(1, "`NONE = -1`: There is nothing to return.");
        due("NONE", PledgedLoans.NONE, -1);
        due("what is not there", new PledgedLoans().memberOf(0, 7), PledgedLoans.NONE);
    }
}
