import java.util.ArrayDeque;
import java.util.ArrayList;
import java.util.Deque;
import java.util.List;
import java.util.Random;
import java.util.regex.Matcher;
import java.util.regex.Pattern;

/**
 * Long runs of random calls, with fixed seeds, on the class and on a second, plain model of the document.
 * After each call the answers are compared, and after each few the whole digest, which the model adds up itself.
 */
public final class PledgedLoansModelTest {
    private static final int RUNS = 300;
    private static final int CALLS = 512;

    private static int wrong = 0;

    public static void main(String[] args) {
        Tally tally = new Tally();
        for (int seed = 0; seed < RUNS && wrong == 0; seed++) {
            new Run(seed, tally).go();
        }
        tally.print();
        tally.checkThatAllWasSeen();
        System.out.println(RUNS + " runs, " + wrong + " wrong");
        if (wrong != 0) {
            System.exit(1);
        }
    }

    /** What the runs came across: a run of calls that are all refused would compare nothing. */
    private static final class Tally {
        int done;
        int refused;
        int thrown;
        int fallen;
        int atStake;
        int dividends;
        int orders;

        void print() {
            System.out.println(done + " calls, " + refused + " refused, " + thrown + " thrown, " + fallen
                + " loans fell due, " + atStake + " times others' shares at stake, " + dividends
                + " paid as dividends, " + orders + " orders done");
        }

        void checkThatAllWasSeen() {
            if (Math.min(Math.min(Math.min(done, refused), Math.min(thrown, fallen)),
                    Math.min(Math.min(atStake, dividends), orders)) < 200) {
                wrong++;
                System.out.println("the runs came across too little");
            }
        }
    }

    private static final class Loan {
        int rest;
        int part;
        int paid;
        int misses;

        Loan copy() {
            Loan c = new Loan();
            c.rest = rest;
            c.part = part;
            c.paid = paid;
            c.misses = misses;
            return c;
        }
    }

    private static final class World {
        int[] shares = new int[6];
        long[] days = new long[6];
        int[][] pledge = new int[6][6];
        Loan[] loan = new Loan[6];
        int[] setting = {20, 3};
        int till;
        int surplus;
        int given;
        int fallen;
        int weeks;
        int day;
        int refused;
        int paid;

        World copy() {
            World w = new World();
            w.shares = shares.clone();
            w.days = days.clone();
            for (int i = 0; i < 6; i++) {
                w.pledge[i] = pledge[i].clone();
                w.loan[i] = loan[i] == null ? null : loan[i].copy();
            }
            w.setting = setting.clone();
            w.till = till;
            w.surplus = surplus;
            w.given = given;
            w.fallen = fallen;
            w.weeks = weeks;
            w.day = day;
            w.refused = refused;
            w.paid = paid;
            return w;
        }
    }

    private static final class Model {
        World w = new World();
        Deque<World> states = new ArrayDeque<>();
        World[] slot = new World[2];
        String text = "";

        static final String AMOUNT = "[1-9][0-9]{0,3}";
        static final Pattern ORDERS = orders();

        static Pattern orders() {
            StringBuilder pairs = new StringBuilder();
            for (int a = 0; a < 6; a++) {
                for (int b = 0; b < 6; b++) {
                    if (a != b) {
                        pairs.append(pairs.length() == 0 ? "" : "|").append(a).append('>').append(b);
                    }
                }
            }
            String order = "(?:[-+r][0-5]:" + AMOUNT + "|p(?:" + pairs + "):" + AMOUNT
                + "|b[0-5]:" + AMOUNT + "/(?:5[0-2]|[1-4][0-9]|[1-9])|w)";
            return Pattern.compile(order + "(?:;" + order + ")*");
        }

        static final int INDEX = -1001;
        static final int ARGUMENT = -1002;
        static final int STATE = -1003;

        void save() {
            states.addLast(w.copy());
            if (states.size() > 6) {
                states.removeFirst();
            }
        }

        boolean no(int member) {
            return member < 0 || member > 5;
        }

        boolean out(int value, int low, int high) {
            return value < low || value > high;
        }

        int by(int member) {
            int sum = 0;
            for (int b = 0; b < 6; b++) {
                sum += w.pledge[member][b];
            }
            return sum;
        }

        int forOne(int member) {
            int sum = 0;
            for (int a = 0; a < 6; a++) {
                sum += w.pledge[a][member];
            }
            return sum;
        }

        int own(int member) {
            return w.shares[member] - by(member);
        }

        int cover(int member) {
            return own(member) + forOne(member);
        }

        int rest(int member) {
            return w.loan[member] == null ? 0 : w.loan[member].rest;
        }

        int free(int member) {
            int open = rest(member) - forOne(member);
            return open > 0 ? own(member) - open : own(member);
        }

        int refuse(int answer) {
            w.refused++;
            return answer;
        }

        int call(String name, int a, int b, int c) {
            switch (name) {
                case "payIn":
                    if (no(a)) return INDEX;
                    if (out(b, 1, 9999)) return ARGUMENT;
                    save();
                    return payIn(a, b);
                case "payOut":
                    if (no(a)) return INDEX;
                    if (out(b, 1, 9999)) return ARGUMENT;
                    save();
                    return payOut(a, b);
                case "pledge":
                    if (no(a) || no(b)) return INDEX;
                    if (a == b || out(c, 1, 9999)) return ARGUMENT;
                    save();
                    return pledge(a, b, c);
                case "unpledge":
                    if (no(a) || no(b)) return INDEX;
                    if (a == b || out(c, 1, 9999)) return ARGUMENT;
                    save();
                    if (w.pledge[a][b] < c) return refuse(1);
                    if (cover(b) - c < rest(b)) return refuse(2);
                    w.pledge[a][b] -= c;
                    return 0;
                case "borrow":
                    if (no(a)) return INDEX;
                    if (out(b, 1, 9999) || out(c, 1, 52)) return ARGUMENT;
                    save();
                    return borrow(a, b, c);
                case "repay":
                    if (no(a)) return INDEX;
                    if (out(b, 1, 9999)) return ARGUMENT;
                    save();
                    return repay(a, b);
                case "week":
                    if (w.weeks == 9999) return STATE;
                    save();
                    return week();
                case "pass":
                    if (out(a, 1, 99)) return ARGUMENT;
                    for (int m = 0; m < 6; m++) {
                        if (w.days[m] + (long) a * w.shares[m] > 100000000L) return STATE;
                    }
                    if (w.day + a > 9999) return STATE;
                    save();
                    for (int d = 0; d < a; d++) {
                        for (int m = 0; m < 6; m++) {
                            w.days[m] += w.shares[m];
                        }
                        w.day++;
                    }
                    return w.day;
                case "dividend":
                    save();
                    return dividend();
                case "set":
                    if (a != 0 && a != 1) return INDEX;
                    if (a == 0 ? out(b, 0, 100) : out(b, 1, 5)) return ARGUMENT;
                    save();
                    int previous = w.setting[a];
                    w.setting[a] = b;
                    return previous;
                default:
                    return call2(name, a, b, c);
            }
        }

        int call2(String name, int a, int b, int c) {
            switch (name) {
                case "append":
                    if (out(a, 33, 126)) return ARGUMENT;
                    if (text.length() == 60) return STATE;
                    text += (char) a;
                    return text.length();
                case "clearBuffer":
                    int length = text.length();
                    text = "";
                    return length;
                case "firstError":
                    return firstError();
                case "run":
                    if (!ORDERS.matcher(text).matches()) return ARGUMENT;
                    save();
                    int done = 0;
                    for (String order : text.split(";")) {
                        if (!order(order)) break;
                        done++;
                    }
                    text = "";
                    return done;
                case "keep":
                    if (a != 0 && a != 1) return ARGUMENT;
                    slot[a] = w.copy();
                    return loans();
                case "goBack":
                    if (a != 0 && a != 1) return ARGUMENT;
                    if (slot[a] == null) return STATE;
                    save();
                    w = slot[a].copy();
                    return loans();
                case "undo":
                    if (states.isEmpty()) return STATE;
                    w = states.removeLast();
                    return states.size();
                case "whyNot":
                    if (no(a)) return INDEX;
                    if (out(b, 1, 9999)) return ARGUMENT;
                    return why(a, b);
                case "guarantors":
                    if (no(a)) return INDEX;
                    if (out(b, 1, 9999) || out(c, 0, 1)) return ARGUMENT;
                    return guarantors(a, b);
                case "pledged":
                    return no(a) || no(b) ? INDEX : w.pledge[a][b];
                case "memberOf":
                    return no(a) ? INDEX : out(b, 0, 9) ? ARGUMENT : property(a, b);
                case "count":
                    return out(a, 0, 11) ? ARGUMENT : count(a);
                case "setting":
                    return out(a, 0, 1) ? INDEX : w.setting[a];
                case "greatest":
                    return no(a) ? INDEX : out(b, 0, 1) ? ARGUMENT : greatest(a);
                case "weeksLeft":
                    return no(a) ? INDEX : out(b, 0, 1) ? ARGUMENT : weeksLeft(a);
                case "ifDivided":
                    return no(a) ? INDEX : share(a);
                case "riskiest":
                    return riskiest();
                default:
                    throw new AssertionError(name);
            }
        }

        boolean order(String order) {
            String[] part = order.split("[:>/]");
            int m = order.length() > 1 ? order.charAt(1) - '0' : 0;
            switch (order.charAt(0)) {
                case '+': return payIn(m, Integer.parseInt(part[1])) >= 0;
                case '-': return payOut(m, Integer.parseInt(part[1])) == 0;
                case 'p': return pledge(m, Integer.parseInt(part[1]), Integer.parseInt(part[2])) >= 0;
                case 'b': return borrow(m, Integer.parseInt(part[1]), Integer.parseInt(part[2])) == 0;
                case 'r': return repay(m, Integer.parseInt(part[1])) >= 0;
                default: return w.weeks < 9999 && week() >= 0;
            }
        }

        int firstError() {
            for (int i = 0; i < text.length(); i++) {
                Matcher matcher = ORDERS.matcher(text.substring(0, i + 1));
                if (!matcher.matches() && !matcher.hitEnd()) return i;
            }
            return text.length();
        }

        int payIn(int a, int b) {
            if (w.shares[a] + b > 90000) return refuse(-1);
            w.till += b;
            return w.shares[a] += b;
        }

        int payOut(int a, int b) {
            if (b > free(a)) return refuse(1);
            if (b > w.till) return refuse(2);
            w.till -= b;
            w.shares[a] -= b;
            return 0;
        }

        int pledge(int a, int b, int c) {
            if (c > free(a)) return refuse(-1);
            return w.pledge[a][b] += c;
        }

        int why(int a, int b) {
            if (w.loan[a] != null) return 1;
            if (b > 3 * w.shares[a]) return 2;
            if (b > cover(a)) return 3;
            return w.till < b - b * w.setting[0] / 1000 ? 4 : 0;
        }

        int borrow(int a, int b, int c) {
            int why = why(a, b);
            if (why > 0) return refuse(why);
            int fee = b * w.setting[0] / 1000;
            w.till -= b - fee;
            w.surplus += fee;
            w.loan[a] = new Loan();
            w.loan[a].rest = b;
            w.loan[a].part = b / c + (b % c == 0 ? 0 : 1);
            w.given++;
            return 0;
        }

        int repay(int a, int b) {
            Loan loan = w.loan[a];
            if (loan == null || loan.rest < b) return refuse(-1);
            w.till += b;
            loan.rest -= b;
            loan.paid += b;
            if (loan.rest == 0) w.loan[a] = null;
            return loan.rest;
        }

        int week() {
            int due = 0;
            for (int m = 0; m < 6; m++) {
                Loan loan = w.loan[m];
                if (loan == null) continue;
                if (loan.paid < loan.part) loan.misses++; else loan.misses = 0;
                loan.paid = 0;
                if (loan.misses < w.setting[1]) continue;
                due++;
                while (loan.rest > 0) {
                    takeOne(m);
                    loan.rest--;
                }
                w.loan[m] = null;
            }
            w.weeks++;
            w.fallen += due;
            return due;
        }

        /** One by one is slow, but leaves nothing to get wrong. */
        void takeOne(int member) {
            if (own(member) > 0) {
                w.shares[member]--;
                return;
            }
            for (int p = 0; p < 6; p++) {
                if (w.pledge[p][member] > 0) {
                    w.pledge[p][member]--;
                    w.shares[p]--;
                    return;
                }
            }
            throw new AssertionError("something is lost");
        }

        long allDays() {
            long sum = 0;
            for (long d : w.days) sum += d;
            return sum;
        }

        int share(int member) {
            return allDays() == 0 ? 0 : (int) ((long) w.surplus * w.days[member] / allDays());
        }

        int dividend() {
            if (allDays() == 0) return refuse(-1);
            int[] gets = new int[6];
            int sum = 0;
            for (int m = 0; m < 6; m++) {
                gets[m] = share(m);
                sum += gets[m];
            }
            for (int m = 0; m < 6; m++) {
                w.shares[m] += gets[m];
                w.days[m] = 0;
            }
            w.surplus -= sum;
            w.paid += sum;
            return sum;
        }

        int loans() {
            int n = 0;
            for (Loan loan : w.loan) if (loan != null) n++;
            return n;
        }

        int property(int m, int what) {
            Loan l = w.loan[m];
            int[] all = {w.shares[m], by(m), forOne(m), cover(m), free(m), (int) w.days[m], rest(m),
                l == null ? -1 : l.part, l == null ? -1 : l.paid, l == null ? -1 : l.misses};
            return all[what];
        }

        int count(int what) {
            int all = 0;
            int rests = 0;
            for (int m = 0; m < 6; m++) {
                all += w.shares[m];
                rests += rest(m);
            }
            int[] counts = {w.till, w.surplus, all, rests, loans(), w.given, w.fallen, w.weeks, w.day, w.refused,
                w.paid, states.size()};
            return counts[what];
        }

        int greatest(int m) {
            int best = 0;
            for (int amount = 1; amount <= 9999; amount++) {
                if (why(m, amount) == 0) best = amount;
            }
            return best;
        }

        int guarantors(int m, int amount) {
            List<Integer> free = new ArrayList<>();
            for (int o = 0; o < 6; o++) {
                if (o != m) free.add(free(o));
            }
            int best = fewest(free, amount - cover(m));
            return best > 5 ? -1 : best;
        }

        int fewest(List<Integer> free, int open) {
            if (open <= 0) return 0;
            if (free.isEmpty()) return 99;
            List<Integer> others = free.subList(1, free.size());
            return Math.min(fewest(others, open), 1 + fewest(others, open - free.get(0)));
        }

        int weeksLeft(int m) {
            Loan l = w.loan[m];
            return l == null ? 0 : l.rest / l.part + (l.rest % l.part == 0 ? 0 : 1);
        }

        int riskiest() {
            int who = -1;
            for (int m = 5; m >= 0; m--) {
                int open = rest(m) - own(m);
                if (w.loan[m] != null && open > 0 && (who < 0 || open >= rest(who) - own(who))) who = m;
            }
            return who;
        }

        double lent() {
            return count(2) == 0 ? 0.0 : (double) count(3) / count(2);
        }

        long digest() {
            List<Long> v = new ArrayList<>();
            for (int what = 0; what < 12; what++) v.add((long) count(what));
            v.add((long) w.setting[0]);
            v.add((long) w.setting[1]);
            for (int m = 0; m < 6; m++) {
                for (int what = 0; what < 10; what++) v.add((long) property(m, what));
                for (int o = 0; o < 6; o++) v.add((long) w.pledge[m][o]);
                long greatest = greatest(m);
                v.add(greatest);
                v.add(greatest);
                v.add((long) guarantors(m, 500));
                v.add((long) guarantors(m, 500));
                v.add((long) guarantors(m, 5000));
                v.add((long) guarantors(m, 5000));
                v.add((long) weeksLeft(m));
                v.add((long) weeksLeft(m));
                v.add((long) share(m));
            }
            v.add((long) riskiest());
            v.add(Double.doubleToLongBits(lent()));
            for (World each : slot) v.add(each == null ? 0L : 1L);
            v.add((long) text.length());
            for (char sign : text.toCharArray()) v.add((long) sign);
            long hash = 3607;
            for (long value : v) hash = hash * 31 + value;
            return hash;
        }
    }

    private static final class Run {
        private final int seed;
        private final Random random;
        private final Tally tally;
        private final PledgedLoans x = new PledgedLoans();
        private final Model model = new Model();
        /** Small amounts and large ones in turns: each run has its own scale. */
        private final int scale;
        private String typed = "";

        Run(int seed, Tally tally) {
            this.seed = seed;
            this.tally = tally;
            random = new Random(seed);
            scale = new int[] {20, 300, 3000, 9999}[random.nextInt(4)];
        }

        void go() {
            for (int i = 0; i < CALLS && wrong == 0; i++) {
                if (i < 6) {
                    both("payIn", i, amount(), 0);
                } else {
                    step();
                }
                compare(i);
            }
            tally.refused += model.w.refused;
            tally.fallen += model.w.fallen;
            tally.dividends += model.w.paid;
        }

        private int amount() {
            switch (random.nextInt(60)) {
                case 0: return 0;
                case 1: return 10000;
                case 2: return 9999;
                case 3: return -random.nextInt();
                default: return 1 + random.nextInt(scale);
            }
        }

        private int member() {
            return random.nextInt(80) == 0 ? random.nextInt(3) * 7 - 1 : random.nextInt(6);
        }

        /** Mostly near what decides: what is free, the cover, three times the shares, the rest, the part. */
        private int near(int member) {
            if (random.nextInt(3) == 0 || model.no(member)) return amount();
            int[] edges = {model.free(member), model.cover(member), 3 * model.w.shares[member],
                model.rest(member), Math.max(1, model.property(member, 7)), model.w.till};
            return edges[random.nextInt(edges.length)] + random.nextInt(3) - 1;
        }

        private void step() {
            int m = member();
            int o = member();
            switch (random.nextInt(30)) {
                case 0: case 1: case 2: both("payIn", m, amount(), 0); break;
                case 3: both("payOut", m, near(m), 0); break;
                case 4: case 5: case 6: both("pledge", m, o, random.nextBoolean() ? near(m) : amount()); break;
                case 7: both("unpledge", m, o, pledgeOf(m, o)); break;
                case 8: case 9: case 10: case 11: both("borrow", m, near(m), random.nextInt(54)); break;
                case 12: case 13: case 14: case 15: both("repay", m, near(m), 0); break;
                case 16: case 17: both("week", 0, 0, 0); break;
                case 18: case 19: both("pass", random.nextInt(101), 0, 0); break;
                case 20: both("dividend", 0, 0, 0); break;
                case 21: both("set", random.nextInt(20) == 0 ? 2 : random.nextInt(2), random.nextInt(103) / (1 + random.nextInt(40)), 0); break;
                case 22: both("keep", random.nextInt(12) == 0 ? -1 : random.nextInt(2), 0, 0); break;
                case 23: if (random.nextInt(3) == 0) both("goBack", random.nextInt(12) == 0 ? 2 : random.nextInt(2), 0, 0); break;
                case 24: if (random.nextBoolean()) both("undo", 0, 0, 0); break;
                case 25: look(m, o); break;
                default: text(); break;
            }
        }

        private int pledgeOf(int m, int o) {
            if (model.no(m) || model.no(o) || random.nextInt(3) == 0) return amount();
            return model.w.pledge[m][o] + random.nextInt(3) - 1;
        }

        private void look(int m, int o) {
            both("whyNot", m, near(m), 0);
            both("guarantors", m, near(o), random.nextInt(2));
            both("pledged", m, o, 0);
            both("memberOf", m, random.nextInt(12) - 1, 0);
            both("count", random.nextInt(14) - 1, 0, 0);
            both("setting", random.nextInt(4) - 1, 0, 0);
            both("greatest", m, random.nextInt(4) - 1, 0);
            both("weeksLeft", m, random.nextInt(4) - 1, 0);
            both("ifDivided", m, 0, 0);
            both("riskiest", 0, 0, 0);
        }

        private void text() {
            int kind = random.nextInt(8);
            if (kind == 0) {
                both("append", 30 + random.nextInt(100), 0, 0);
            } else if (kind == 1) {
                both("clearBuffer", 0, 0, 0);
            } else {
                both("clearBuffer", 0, 0, 0);
                type();
                both("firstError", 0, 0, 0);
                int done = both("run", 0, 0, 0);
                tally.orders += Math.max(0, done);
            }
        }

        private void type() {
            StringBuilder text = new StringBuilder();
            int orders = 1 + random.nextInt(7);
            for (int i = 0; i < orders; i++) {
                text.append(i == 0 ? "" : ";").append(order());
            }
            if (random.nextInt(3) == 0) {
                text.setCharAt(random.nextInt(text.length()), "+-pbrw0156:>/;9x".charAt(random.nextInt(16)));
            }
            if (random.nextInt(8) == 0) {
                text.setLength(random.nextInt(text.length()));
            }
            for (int i = 0; i < text.length(); i++) {
                both("append", text.charAt(i), 0, 0);
            }
        }

        private String order() {
            int m = random.nextInt(6);
            int o = (m + 1 + random.nextInt(5)) % 6;
            int amount = Math.max(1, Math.min(9999, near(m)));
            switch (random.nextInt(6)) {
                case 0: return "+" + m + ":" + (1 + random.nextInt(scale));
                case 1: return "-" + m + ":" + amount;
                case 2: return "p" + m + ">" + o + ":" + amount;
                case 3: return "b" + m + ":" + amount + "/" + (1 + random.nextInt(52));
                case 4: return "r" + m + ":" + amount;
                default: return "w";
            }
        }

        private int both(String name, int a, int b, int c) {
            typed = name + "(" + a + ", " + b + ", " + c + ")";
            int want = model.call(name, a, b, c);
            int got;
            try {
                got = real(name, a, b, c);
            } catch (IndexOutOfBoundsException e) {
                got = e.getClass() == IndexOutOfBoundsException.class ? Model.INDEX : -2000;
            } catch (IllegalArgumentException e) {
                got = e.getClass() == IllegalArgumentException.class ? Model.ARGUMENT : -2000;
            } catch (IllegalStateException e) {
                got = e.getClass() == IllegalStateException.class ? Model.STATE : -2000;
            }
            tally.done++;
            if (want <= Model.INDEX) tally.thrown++;
            if (got != want) fail(typed + " answered " + got + ", due is " + want);
            return got;
        }

        private void fail(String what) {
            wrong++;
            System.out.println("seed " + seed + ": " + what);
        }

        private int real(String name, int a, int b, int c) {
            switch (name) {
                case "payIn": return x.payIn(a, b);
                case "payOut": return x.payOut(a, b);
                case "pledge": return x.pledge(a, b, c);
                case "unpledge": return x.unpledge(a, b, c);
                case "borrow": return x.borrow(a, b, c);
                case "repay": return x.repay(a, b);
                case "week": return x.week();
                case "pass": return x.pass(a);
                case "dividend": return x.dividend();
                case "set": return x.set(a, b);
                case "append": return x.append(a);
                case "clearBuffer": return x.clearBuffer();
                case "firstError": return x.firstError();
                case "run": return x.run();
                case "keep": return x.keep(a);
                case "goBack": return x.goBack(a);
                case "undo": return x.undo();
                case "whyNot": return x.whyNot(a, b);
                case "guarantors": return x.guarantors(a, b, c);
                case "pledged": return x.pledged(a, b);
                case "memberOf": return x.memberOf(a, b);
                case "count": return x.count(a);
                case "setting": return x.setting(a);
                case "greatest": return x.greatest(a, b);
                case "weeksLeft": return x.weeksLeft(a, b);
                case "ifDivided": return x.ifDivided(a);
                case "riskiest": return x.riskiest();
                default: throw new AssertionError(name);
            }
        }

        private void compare(int call) {
            for (int what = 0; what < 12; what++) {
                both("count", what, 0, 0);
            }
            int member = call % 6;
            for (int what = 0; what < 10; what++) {
                both("memberOf", member, what, 0);
            }
            both("riskiest", 0, 0, 0);
            if (model.riskiest() >= 0) tally.atStake++;
            if (x.lentShare() != model.lent()) fail("lentShare after " + typed);
            if (call % 5 == 0 && x.digest() != model.digest()) fail("digest after " + typed);
            // What the union has is what it owes: shares that are taken for a loan end with it.
            if (x.count(0) + x.count(3) != x.count(1) + x.count(2)) fail("money is lost after " + typed);
        }
    }
}
