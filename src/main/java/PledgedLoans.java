/** A credit union whose members borrow against their own shares and against shares that others pledge for them. */
public final class PledgedLoans {
    /** There is nothing to return. */
    public static final int NONE = -1;

    private static final int MEMBERS = 6;
    private static final int AMOUNT_MAX = 9999;
    private static final int SHARES_MAX = 90000;
    private static final int LOAN_WEEKS_MAX = 52;
    private static final int ENDED_WEEKS_MAX = 9999;
    private static final int PASS_MAX = 99;
    private static final int DAY_MAX = 9999;
    private static final int SHARE_DAYS_MAX = 100000000;

    private static final int SETTINGS = 2;
    private static final int FEE = 0;
    private static final int FEE_MIN = 0;
    private static final int FEE_MAX = 100;
    private static final int DUE_MISSES = 1;
    private static final int DUE_MISSES_MIN = 1;
    private static final int DUE_MISSES_MAX = 5;

    private static final int PROPERTIES = 10;
    private static final int COUNTS = 12;
    private static final int SLOTS = 2;
    private static final int SAVED_MAX = 6;
    private static final int BUFFER_MAX = 60;
    private static final int CODE_MIN = 33;
    private static final int CODE_MAX = 126;

    private static final int WHY_HAS_LOAN = 1;
    private static final int WHY_SHARES = 2;
    private static final int WHY_COVER = 3;
    private static final int WHY_TILL = 4;

    /** The greatest power of two that is not above AMOUNT_MAX. */
    private static final int FIRST_STEP = 8192;

    private final Books books = new Books();
    private final Books[] saved = new Books[SAVED_MAX];
    private int savedStates;
    private final Books[] slots = new Books[SLOTS];
    private final boolean[] slotFilled = new boolean[SLOTS];
    private final char[] buffer = new char[BUFFER_MAX];
    private int bufferLength;
    private final OrderReader reader = new OrderReader();
    /** What is free of each one's shares while guarantors are looked for; kept so that no look makes a new row. */
    private final int[] free = new int[MEMBERS];

    public PledgedLoans() {
        for (int i = 0; i < SAVED_MAX; i++) {
            saved[i] = new Books();
        }
        for (int i = 0; i < SLOTS; i++) {
            slots[i] = new Books();
        }
    }

    // ---- shares, pledges

    public int payIn(int member, int amount) throws IndexOutOfBoundsException, IllegalArgumentException {
        checkMember(member);
        checkAmount(amount);
        saveState();
        return books.takeIn(member, amount);
    }

    public int payOut(int member, int amount) throws IndexOutOfBoundsException, IllegalArgumentException {
        checkMember(member);
        checkAmount(amount);
        saveState();
        return books.giveOut(member, amount);
    }

    public int pledge(int member, int borrower, int amount)
            throws IndexOutOfBoundsException, IllegalArgumentException {
        checkPair(member, borrower);
        checkAmount(amount);
        saveState();
        return books.addPledge(member, borrower, amount);
    }

    public int unpledge(int member, int borrower, int amount)
            throws IndexOutOfBoundsException, IllegalArgumentException {
        checkPair(member, borrower);
        checkAmount(amount);
        saveState();
        return books.dropPledge(member, borrower, amount);
    }

    // ---- loans

    public int borrow(int member, int amount, int weeks)
            throws IndexOutOfBoundsException, IllegalArgumentException {
        checkMember(member);
        checkAmount(amount);
        checkRange(weeks, 1, LOAN_WEEKS_MAX);
        saveState();
        return books.lend(member, amount, weeks);
    }

    public int repay(int member, int amount) throws IndexOutOfBoundsException, IllegalArgumentException {
        checkMember(member);
        checkAmount(amount);
        saveState();
        return books.takeBack(member, amount);
    }

    // ---- weeks, days

    public int week() throws IllegalStateException {
        if (!books.canEndWeek()) {
            throw new IllegalStateException("too many weeks ended");
        }
        saveState();
        return books.endWeek();
    }

    public int pass(int days) throws IllegalArgumentException, IllegalStateException {
        checkRange(days, 1, PASS_MAX);
        if (!books.canAddDays(days)) {
            throw new IllegalStateException("too many days or share days");
        }
        saveState();
        return books.addDays(days);
    }

    public int dividend() {
        saveState();
        return books.shareOut();
    }

    public int set(int setting, int value) throws IndexOutOfBoundsException, IllegalArgumentException {
        checkSetting(setting);
        if (setting == FEE) {
            checkRange(value, FEE_MIN, FEE_MAX);
        } else {
            checkRange(value, DUE_MISSES_MIN, DUE_MISSES_MAX);
        }
        saveState();
        int previous = books.settings[setting];
        books.settings[setting] = value;
        return previous;
    }

    // ---- texts, snapshots

    public int append(int code) throws IllegalArgumentException, IllegalStateException {
        checkRange(code, CODE_MIN, CODE_MAX);
        if (bufferLength >= BUFFER_MAX) {
            throw new IllegalStateException("the buffer is full");
        }
        buffer[bufferLength] = (char) code;
        bufferLength++;
        return bufferLength;
    }

    public int clearBuffer() {
        int length = bufferLength;
        bufferLength = 0;
        return length;
    }

    public int firstError() {
        return readToError();
    }

    public int run() throws IllegalArgumentException {
        if (readToError() < bufferLength || !reader.isWhole()) {
            throw new IllegalArgumentException("no orders as a text");
        }
        saveState();
        int done = doOrders();
        bufferLength = 0;
        return done;
    }

    public int keep(int slot) throws IllegalArgumentException {
        checkRange(slot, 0, SLOTS - 1);
        slots[slot].copyFrom(books);
        slotFilled[slot] = true;
        return books.loans();
    }

    public int goBack(int slot) throws IllegalArgumentException, IllegalStateException {
        checkRange(slot, 0, SLOTS - 1);
        if (!slotFilled[slot]) {
            throw new IllegalStateException("no snapshot in the slot");
        }
        saveState();
        books.copyFrom(slots[slot]);
        return books.loans();
    }

    public int undo() throws IllegalStateException {
        if (savedStates < 1) {
            throw new IllegalStateException("no saved state");
        }
        savedStates--;
        books.copyFrom(saved[savedStates]);
        return savedStates;
    }

    // ---- looks; nothing is changed

    public int memberOf(int member, int what) throws IndexOutOfBoundsException, IllegalArgumentException {
        checkMember(member);
        checkRange(what, 0, PROPERTIES - 1);
        return books.property(member, what);
    }

    public int pledged(int member, int borrower) throws IndexOutOfBoundsException {
        checkMember(member);
        checkMember(borrower);
        return books.pledges[Books.place(member, borrower)];
    }

    public int count(int what) throws IllegalArgumentException {
        checkRange(what, 0, COUNTS - 1);
        return number(what);
    }

    public int setting(int setting) throws IndexOutOfBoundsException {
        checkSetting(setting);
        return books.settings[setting];
    }

    // ---- what would be; nothing is changed

    public int whyNot(int member, int amount) throws IndexOutOfBoundsException, IllegalArgumentException {
        checkMember(member);
        checkAmount(amount);
        return books.whyNoLoan(member, amount);
    }

    public int greatest(int member, int what) throws IndexOutOfBoundsException, IllegalArgumentException {
        checkMember(member);
        checkRange(what, 0, 1);
        return what == 0 ? greatestByHalving(member) : greatestByAll(member);
    }

    public int guarantors(int member, int amount, int what)
            throws IndexOutOfBoundsException, IllegalArgumentException {
        checkMember(member);
        checkAmount(amount);
        checkRange(what, 0, 1);
        return what == 0 ? fewestByGreatest(member, amount) : fewestBySets(member, amount);
    }

    public int weeksLeft(int member, int what) throws IndexOutOfBoundsException, IllegalArgumentException {
        checkMember(member);
        checkRange(what, 0, 1);
        return what == 0 ? books.weeksByWeeks(member) : books.weeksAtOnce(member);
    }

    public int ifDivided(int member) throws IndexOutOfBoundsException {
        checkMember(member);
        return books.dividendOf(member, books.allShareDays());
    }

    public int riskiest() {
        return books.mostAtStake();
    }

    public double lentShare() {
        return books.lentPart();
    }

    public long digest() {
        long hash = 3607L;
        for (int what = 0; what < COUNTS; what++) {
            hash = 31L * hash + number(what);
        }
        for (int setting = 0; setting < SETTINGS; setting++) {
            hash = 31L * hash + books.settings[setting];
        }
        for (int member = 0; member < MEMBERS; member++) {
            hash = digestOfMember(hash, member);
        }
        hash = 31L * hash + books.mostAtStake();
        hash = 31L * hash + bits(books.lentPart());
        for (int slot = 0; slot < SLOTS; slot++) {
            hash = 31L * hash + (slotFilled[slot] ? 1 : 0);
        }
        hash = 31L * hash + bufferLength;
        for (int i = 0; i < bufferLength; i++) {
            hash = 31L * hash + buffer[i];
        }
        return hash;
    }

    // ---- checks of arguments

    private static void checkMember(int member) {
        if (member < 0 || member >= MEMBERS) {
            throw new IndexOutOfBoundsException("no such member");
        }
    }

    private static void checkPair(int member, int borrower) {
        checkMember(member);
        checkMember(borrower);
        if (member == borrower) {
            throw new IllegalArgumentException("both are the same member");
        }
    }

    private static void checkSetting(int setting) {
        if (setting < 0 || setting >= SETTINGS) {
            throw new IndexOutOfBoundsException("no such setting");
        }
    }

    private static void checkAmount(int amount) {
        checkRange(amount, 1, AMOUNT_MAX);
    }

    private static void checkRange(int value, int lowest, int highest) {
        if (value < lowest || value > highest) {
            throw new IllegalArgumentException("out of range");
        }
    }

    // ---- saved states

    private void saveState() {
        if (savedStates >= SAVED_MAX) {
            dropOldest();
        }
        saved[savedStates].copyFrom(books);
        savedStates++;
    }

    /** The dropped state's books go to the end, so that they are written over and no new ones are made. */
    private void dropOldest() {
        Books oldest = saved[0];
        for (int i = 1; i < SAVED_MAX; i++) {
            saved[i - 1] = saved[i];
        }
        saved[SAVED_MAX - 1] = oldest;
        savedStates = SAVED_MAX - 1;
    }

    // ---- orders as a text

    /** The index of the first syntax error, or the buffer's length; the reader stands behind what was read. */
    private int readToError() {
        reader.restart();
        for (int i = 0; i < bufferLength; i++) {
            if (!reader.take(buffer[i])) {
                return i;
            }
        }
        return bufferLength;
    }

    /** The buffer tells orders as a text; how many of them are done until one is not. */
    private int doOrders() {
        int done = 0;
        reader.restart();
        for (int i = 0; i < bufferLength; i++) {
            if (buffer[i] == OrderReader.END_SIGN) {
                if (!doOrder()) {
                    return done;
                }
                done++;
            }
            reader.take(buffer[i]);
        }
        return doOrder() ? done + 1 : done;
    }

    /** Does the order that was read last; false if it is refused, or its method would throw. */
    private boolean doOrder() {
        switch (reader.kind) {
            case OrderReader.PAY_IN:
                return books.takeIn(reader.member, reader.amount) != NONE;
            case OrderReader.PAY_OUT:
                return books.giveOut(reader.member, reader.amount) == 0;
            case OrderReader.PLEDGE:
                return books.addPledge(reader.member, reader.borrower, reader.amount) != NONE;
            case OrderReader.BORROW:
                return books.lend(reader.member, reader.amount, reader.weeks) == 0;
            case OrderReader.REPAY:
                return books.takeBack(reader.member, reader.amount) != NONE;
            default:
                if (!books.canEndWeek()) {
                    return false;
                }
                books.endWeek();
                return true;
        }
    }

    // ---- looks

    private int number(int what) {
        switch (what) {
            case 0: return books.till;
            case 1: return books.surplus;
            case 2: return books.allShares();
            case 3: return books.allRests();
            case 4: return books.loans();
            case 5: return books.loansGiven;
            case 6: return books.loansFallenDue;
            case 7: return books.weeksEnded;
            case 8: return books.day;
            case 9: return books.refused;
            case 10: return books.dividendsPaid;
            default: return savedStates;
        }
    }

    /** Halves the step from power to power: what is given for an amount is given for each lower one too. */
    private int greatestByHalving(int member) {
        int amount = 0;
        for (int step = FIRST_STEP; step > 0; step /= 2) {
            int next = amount + step;
            if (next <= AMOUNT_MAX && books.whyNoLoan(member, next) == 0) {
                amount = next;
            }
        }
        return amount;
    }

    private int greatestByAll(int member) {
        if (books.hasLoan(member)) {
            return 0;
        }
        // Neither depends on the amount, and adding them up for each amount anew would be dear.
        int threefold = books.threefold(member);
        int cover = books.cover(member);
        for (int amount = AMOUNT_MAX; amount > 0; amount--) {
            if (books.whyAbove(threefold, cover, amount) == 0) {
                return amount;
            }
        }
        return 0;
    }

    /** The members in whose shares the most is free come first. */
    private int fewestByGreatest(int member, int amount) {
        fillFree();
        int cover = books.cover(member);
        int used = 1 << member;
        for (int others = 0; others < MEMBERS; others++) {
            if (cover >= amount) {
                return others;
            }
            int next = freest(used);
            if (next == NONE) {
                return NONE;
            }
            cover += free[next];
            used |= 1 << next;
        }
        return NONE;
    }

    private int fewestBySets(int member, int amount) {
        fillFree();
        int cover = books.cover(member);
        int fewest = NONE;
        for (int others = 0; others < 1 << MEMBERS; others++) {
            int size = Integer.bitCount(others);
            boolean isOthers = (others >> member & 1) == 0;
            if (isOthers && (fewest == NONE || size < fewest) && cover + freeOf(others) >= amount) {
                fewest = size;
            }
        }
        return fewest;
    }

    private void fillFree() {
        for (int i = 0; i < MEMBERS; i++) {
            free[i] = books.freeShares(i);
        }
    }

    /** The member with the most free of those whose bit in used is 0; NONE if there is none. */
    private int freest(int used) {
        int best = NONE;
        for (int i = 0; i < MEMBERS; i++) {
            if ((used >> i & 1) == 0 && (best == NONE || free[i] > free[best])) {
                best = i;
            }
        }
        return best;
    }

    /** What is free of the shares of all whose bit in those is 1, together. */
    private int freeOf(int those) {
        int sum = 0;
        for (int i = 0; i < MEMBERS; i++) {
            if ((those >> i & 1) == 1) {
                sum += free[i];
            }
        }
        return sum;
    }

    // ---- the digest

    private long digestOfMember(long before, int member) {
        long hash = before;
        for (int what = 0; what < PROPERTIES; what++) {
            hash = 31L * hash + books.property(member, what);
        }
        for (int borrower = 0; borrower < MEMBERS; borrower++) {
            hash = 31L * hash + books.pledges[Books.place(member, borrower)];
        }
        hash = 31L * hash + greatestByHalving(member);
        hash = 31L * hash + greatestByAll(member);
        hash = 31L * hash + fewestByGreatest(member, 500);
        hash = 31L * hash + fewestBySets(member, 500);
        hash = 31L * hash + fewestByGreatest(member, 5000);
        hash = 31L * hash + fewestBySets(member, 5000);
        hash = 31L * hash + books.weeksByWeeks(member);
        hash = 31L * hash + books.weeksAtOnce(member);
        return 31L * hash + books.dividendOf(member, books.allShareDays());
    }

    /**
     * The bits of a share from 0 to 1, as Double.doubleToLongBits tells them: that function is not in the library
     * that is allowed. A share is never above 1, as the covers, which are all shares together, hold the rests.
     */
    private static long bits(double share) {
        if (share <= 0.0) {
            return 0L;
        }
        double fraction = share;
        int exponent = 0;
        for (int i = 0; i < 1022 && fraction < 1.0; i++) {
            fraction = fraction * 2.0;
            exponent--;
        }
        long mantissa = (long) ((fraction - 1.0) * 4503599627370496.0);
        return ((long) (exponent + 1023) << 52) + mantissa;
    }

    /** All that a snapshot or a saved state holds, and the rules of the union on it. */
    private static final class Books {
        final int[] shares = new int[MEMBERS];
        final int[] shareDays = new int[MEMBERS];
        /** By place(who pledges, for whom). */
        final int[] pledges = new int[MEMBERS * MEMBERS];
        /** 0 without a loan. */
        final int[] rest = new int[MEMBERS];
        final int[] part = new int[MEMBERS];
        final int[] paid = new int[MEMBERS];
        final int[] misses = new int[MEMBERS];
        final int[] settings = {20, 3};
        int till;
        int surplus;
        int loansGiven;
        int loansFallenDue;
        int weeksEnded;
        int day;
        int refused;
        int dividendsPaid;

        static int place(int member, int borrower) {
            return member * MEMBERS + borrower;
        }

        void copyFrom(Books other) {
            copyRow(other.shares, shares);
            copyRow(other.shareDays, shareDays);
            copyRow(other.pledges, pledges);
            copyRow(other.rest, rest);
            copyRow(other.part, part);
            copyRow(other.paid, paid);
            copyRow(other.misses, misses);
            copyRow(other.settings, settings);
            till = other.till;
            surplus = other.surplus;
            loansGiven = other.loansGiven;
            loansFallenDue = other.loansFallenDue;
            weeksEnded = other.weeksEnded;
            day = other.day;
            refused = other.refused;
            dividendsPaid = other.dividendsPaid;
        }

        private static void copyRow(int[] from, int[] to) {
            System.arraycopy(from, 0, to, 0, Math.min(from.length, to.length));
        }

        // ---- sums

        int allShares() {
            int sum = 0;
            for (int amount : shares) {
                sum += amount;
            }
            return sum;
        }

        int allRests() {
            int sum = 0;
            for (int amount : rest) {
                sum += amount;
            }
            return sum;
        }

        long allShareDays() {
            long sum = 0;
            for (int days : shareDays) {
                sum += days;
            }
            return sum;
        }

        int loans() {
            int loans = 0;
            for (int member = 0; member < MEMBERS; member++) {
                if (hasLoan(member)) {
                    loans++;
                }
            }
            return loans;
        }

        boolean hasLoan(int member) {
            return rest[member] > 0;
        }

        int pledgedBy(int member) {
            int sum = 0;
            int row = member * MEMBERS;
            for (int borrower = 0; borrower < MEMBERS; borrower++) {
                sum += pledges[row + borrower];
            }
            return sum;
        }

        int pledgedFor(int borrower) {
            int sum = 0;
            for (int place = borrower; place < pledges.length; place += MEMBERS) {
                sum += pledges[place];
            }
            return sum;
        }

        int ownLeft(int member) {
            return shares[member] - pledgedBy(member);
        }

        int cover(int member) {
            return ownLeft(member) + pledgedFor(member);
        }

        int freeShares(int member) {
            return ownLeft(member) - Math.max(0, rest[member] - pledgedFor(member));
        }

        int property(int member, int what) {
            switch (what) {
                case 0: return shares[member];
                case 1: return pledgedBy(member);
                case 2: return pledgedFor(member);
                case 3: return cover(member);
                case 4: return freeShares(member);
                case 5: return shareDays[member];
                case 6: return rest[member];
                case 7: return hasLoan(member) ? part[member] : NONE;
                case 8: return hasLoan(member) ? paid[member] : NONE;
                default: return hasLoan(member) ? misses[member] : NONE;
            }
        }

        // ---- shares, pledges

        int takeIn(int member, int amount) {
            int then = shares[member] + amount;
            if (then > SHARES_MAX) {
                refused++;
                return NONE;
            }
            shares[member] = then;
            till += amount;
            return then;
        }

        int giveOut(int member, int amount) {
            if (amount > freeShares(member)) {
                refused++;
                return 1;
            }
            if (amount > till) {
                refused++;
                return 2;
            }
            shares[member] -= amount;
            till -= amount;
            return 0;
        }

        int addPledge(int member, int borrower, int amount) {
            if (amount > freeShares(member)) {
                refused++;
                return NONE;
            }
            int place = place(member, borrower);
            pledges[place] += amount;
            return pledges[place];
        }

        int dropPledge(int member, int borrower, int amount) {
            int place = place(member, borrower);
            if (amount > pledges[place]) {
                refused++;
                return 1;
            }
            if (cover(borrower) - amount < rest[borrower]) {
                refused++;
                return 2;
            }
            pledges[place] -= amount;
            return 0;
        }

        // ---- loans

        int feeOf(int amount) {
            return amount * settings[FEE] / 1000;
        }

        int threefold(int member) {
            return 3 * shares[member];
        }

        int whyNoLoan(int member, int amount) {
            if (hasLoan(member)) {
                return WHY_HAS_LOAN;
            }
            return whyAbove(threefold(member), cover(member), amount);
        }

        int whyAbove(int threefold, int cover, int amount) {
            if (amount > threefold) {
                return WHY_SHARES;
            }
            if (amount > cover) {
                return WHY_COVER;
            }
            return till < amount - feeOf(amount) ? WHY_TILL : 0;
        }

        /** The weeks are at least 1. */
        int lend(int member, int amount, int weeks) {
            int why = whyNoLoan(member, amount);
            if (why != 0) {
                refused++;
                return why;
            }
            int fee = feeOf(amount);
            till -= amount - fee;
            surplus += fee;
            rest[member] = amount;
            part[member] = (amount + weeks - 1) / weeks;
            paid[member] = 0;
            misses[member] = 0;
            loansGiven++;
            return 0;
        }

        int takeBack(int member, int amount) {
            if (amount > rest[member]) {
                refused++;
                return NONE;
            }
            till += amount;
            rest[member] -= amount;
            paid[member] += amount;
            return rest[member];
        }

        int weeksByWeeks(int member) {
            int left = rest[member];
            int weeks = 0;
            while (left > 0 && weeks < AMOUNT_MAX) {
                left -= Math.min(left, part[member]);
                weeks++;
            }
            return weeks;
        }

        int weeksAtOnce(int member) {
            int each = part[member];
            if (!hasLoan(member) || each < 1) {
                return 0;
            }
            return (rest[member] + each - 1) / each;
        }

        int mostAtStake() {
            int riskiest = NONE;
            int most = 0;
            for (int member = 0; member < MEMBERS; member++) {
                int stake = rest[member] - ownLeft(member);
                if (hasLoan(member) && stake > most) {
                    most = stake;
                    riskiest = member;
                }
            }
            return riskiest;
        }

        double lentPart() {
            int all = allShares();
            return all < 1 ? 0.0 : (double) allRests() / (double) all;
        }

        // ---- weeks

        boolean canEndWeek() {
            return weeksEnded < ENDED_WEEKS_MAX;
        }

        int endWeek() {
            int fallen = 0;
            for (int member = 0; member < MEMBERS; member++) {
                if (hasLoan(member) && endWeekOf(member)) {
                    fallen++;
                }
            }
            weeksEnded++;
            loansFallenDue += fallen;
            return fallen;
        }

        /** Tells whether the member's loan falls due. */
        private boolean endWeekOf(int member) {
            misses[member] = paid[member] < part[member] ? misses[member] + 1 : 0;
            paid[member] = 0;
            if (misses[member] < settings[DUE_MISSES]) {
                return false;
            }
            takeDue(member);
            return true;
        }

        private void takeDue(int borrower) {
            int due = rest[borrower];
            int own = Math.min(due, ownLeft(borrower));
            shares[borrower] -= own;
            due -= own;
            for (int member = 0; member < MEMBERS; member++) {
                int place = place(member, borrower);
                int taken = Math.min(due, pledges[place]);
                shares[member] -= taken;
                pledges[place] -= taken;
                due -= taken;
            }
            rest[borrower] = 0;
        }

        // ---- days, dividends

        boolean canAddDays(int days) {
            if (day + days > DAY_MAX) {
                return false;
            }
            for (int member = 0; member < MEMBERS; member++) {
                if (shareDays[member] + (long) shares[member] * days > SHARE_DAYS_MAX) {
                    return false;
                }
            }
            return true;
        }

        int addDays(int days) {
            for (int member = 0; member < MEMBERS; member++) {
                shareDays[member] += shares[member] * days;
            }
            day += days;
            return day;
        }

        int dividendOf(int member, long all) {
            return all < 1 ? 0 : (int) ((long) surplus * shareDays[member] / all);
        }

        int shareOut() {
            long all = allShareDays();
            if (all < 1) {
                refused++;
                return NONE;
            }
            int sum = 0;
            for (int member = 0; member < MEMBERS; member++) {
                int gets = dividendOf(member, all);
                shares[member] += gets;
                shareDays[member] = 0;
                sum += gets;
            }
            surplus -= sum;
            dividendsPaid += sum;
            return sum;
        }
    }

    /** Reads orders sign by sign and keeps the order that it is in. */
    private static final class OrderReader {
        static final char END_SIGN = ';';
        static final char PAY_IN = '+';
        static final char PAY_OUT = '-';
        static final char PLEDGE = 'p';
        static final char BORROW = 'b';
        static final char REPAY = 'r';
        static final char WEEK = 'w';

        private static final int AT_KIND = 0;
        private static final int AT_MEMBER = 1;
        private static final int AT_ARROW = 2;
        private static final int AT_BORROWER = 3;
        private static final int AT_COLON = 4;
        private static final int IN_AMOUNT = 5;
        private static final int IN_WEEKS = 6;
        private static final int AT_END = 7;

        private int stage;
        char kind;
        int member;
        int borrower;
        /** 0 as long as none of its digits was read; so are the weeks. */
        int amount;
        int weeks;

        void restart() {
            stage = AT_KIND;
            kind = END_SIGN;
            amount = 0;
            weeks = 0;
        }

        /** Tells whether a text may end here. */
        boolean isWhole() {
            switch (stage) {
                case IN_AMOUNT: return amount > 0 && kind != BORROW;
                case IN_WEEKS: return weeks > 0;
                default: return stage == AT_END;
            }
        }

        /** Reads one sign; false if it is a syntax error. */
        boolean take(char sign) {
            if (sign == END_SIGN) {
                return takeEnd();
            }
            switch (stage) {
                case AT_KIND: return takeKind(sign);
                case AT_MEMBER: return takeMember(sign);
                case AT_ARROW: return takeMark(sign, '>', AT_BORROWER);
                case AT_BORROWER: return takeBorrower(sign);
                case AT_COLON: return takeMark(sign, ':', IN_AMOUNT);
                case IN_AMOUNT: return takeAmount(sign);
                case IN_WEEKS: return takeWeeks(sign);
                default: return false;
            }
        }

        private boolean takeEnd() {
            if (!isWhole()) {
                return false;
            }
            restart();
            return true;
        }

        private boolean takeKind(char sign) {
            kind = sign;
            switch (sign) {
                case PAY_IN:
                case PAY_OUT:
                case PLEDGE:
                case BORROW:
                case REPAY:
                    stage = AT_MEMBER;
                    return true;
                case WEEK:
                    stage = AT_END;
                    return true;
                default:
                    return false;
            }
        }

        private static boolean isMember(char sign) {
            return sign >= '0' && sign - '0' < MEMBERS;
        }

        private boolean takeMember(char sign) {
            if (!isMember(sign)) {
                return false;
            }
            member = sign - '0';
            stage = kind == PLEDGE ? AT_ARROW : AT_COLON;
            return true;
        }

        private boolean takeBorrower(char sign) {
            if (!isMember(sign) || sign - '0' == member) {
                return false;
            }
            borrower = sign - '0';
            stage = AT_COLON;
            return true;
        }

        private boolean takeMark(char sign, char mark, int next) {
            if (sign != mark) {
                return false;
            }
            stage = next;
            return true;
        }

        private boolean takeAmount(char sign) {
            if (sign == '/' && kind == BORROW && amount > 0) {
                stage = IN_WEEKS;
                return true;
            }
            int next = longer(amount, sign, AMOUNT_MAX);
            if (next == NONE) {
                return false;
            }
            amount = next;
            return true;
        }

        private boolean takeWeeks(char sign) {
            int next = longer(weeks, sign, LOAN_WEEKS_MAX);
            if (next == NONE) {
                return false;
            }
            weeks = next;
            return true;
        }

        /** The number with one digit more; NONE if it is no digit, or the number is not from 1 to highest then. */
        private static int longer(int number, char digit, int highest) {
            if (digit < '0' || digit > '9') {
                return NONE;
            }
            int next = number * 10 + (digit - '0');
            return next < 1 || next > highest ? NONE : next;
        }
    }
}
