import java.io.IOException;
import java.lang.reflect.Field;
import java.nio.file.Files;
import java.nio.file.Path;
import java.util.LinkedHashMap;
import java.util.Map;

/**
 * What the tests that go through the document sentence by sentence share. says() and term() name a promise and a
 * sentence, word for word; the checks behind it stand for it, up to the next one. finish() fails if a check was
 * wrong, if a sentence had no check, and if the document has words that no test names.
 */
abstract class Sentences {
    static final int NONE = -1;
    static final Class<?> INDEX = IndexOutOfBoundsException.class;
    static final Class<?> ARGUMENT = IllegalArgumentException.class;
    static final Class<?> STATE = IllegalStateException.class;

    private static final String DOCUMENT = "../shared/DOC.md";
    private static final String TERMS = "Terms";

    private static final Map<String, Section> sections = new LinkedHashMap<>();
    private static int promise;
    private static String sentence = "";
    private static int checksOfSentence = 1;
    private static int sentences;
    private static int checks;
    private static int wrong;

    private static final class Section {
        final String text;
        final boolean[] named;

        Section(String text) {
            this.text = text;
            named = new boolean[text.length()];
        }

        /** Tells whether the words stand here. */
        boolean name(String words) {
            int at = text.indexOf(words);
            boolean found = at >= 0;
            while (at >= 0) {
                for (int i = at; i < at + words.length(); i++) {
                    named[i] = true;
                }
                at = text.indexOf(words, at + 1);
            }
            return found;
        }

        String unnamed() {
            StringBuilder left = new StringBuilder();
            for (int i = 0; i < text.length(); i++) {
                left.append(named[i] ? ' ' : text.charAt(i));
            }
            return left.toString().replaceAll("[^A-Za-z0-9<>=`]+", " ").trim();
        }
    }

    interface Call {
        long of();
    }

    interface NumberCall {
        long of(int number);
    }

    interface UnionCall {
        long of(PledgedLoans x);
    }

    // ---- the document

    static void readDocument() throws IOException {
        Map<String, StringBuilder> texts = new LinkedHashMap<>();
        String section = "";
        boolean isCode = false;
        for (String line : Files.readAllLines(Path.of(DOCUMENT))) {
            if (line.startsWith("An object is used for")) {
                section = TERMS;
            } else if (line.startsWith("## Promise ")) {
                section = line.substring(3, line.indexOf(':'));
            } else if (line.startsWith("## Not promised")) {
                section = "";
            }
            isCode ^= line.startsWith("```");
            if (!section.isEmpty() && !isCode && !isHeading(line)) {
                texts.computeIfAbsent(section, s -> new StringBuilder()).append(withoutSignature(line)).append('\n');
            }
        }
        texts.forEach((name, text) -> sections.put(name, new Section(text.toString())));
    }

    /** Lines that say nothing about what a call answers. */
    private static boolean isHeading(String line) {
        return line.startsWith("#") || line.startsWith("```") || line.startsWith("Ahead of the calls ")
            || line.equals("Members, pledges") || line.equals("Days, dividends") || line.equals("Snapshots, undo");
    }

    private static String withoutSignature(String line) {
        return line.replaceFirst("^`[^`]*`: ", "").replaceFirst("^The constants: ", "");
    }

    /** A sentence of the promise's own section. */
    static void says(int number, String words) {
        name("Promise " + number, number, words);
    }

    /** A sentence of what stands ahead of the promises, with the promise in which it is to be seen. */
    static void term(int number, String words) {
        name(TERMS, number, words);
    }

    private static void name(String section, int number, String words) {
        checkThatSentenceIsTested();
        promise = number;
        sentence = words;
        checksOfSentence = 0;
        sentences++;
        if (!sections.containsKey(section) || !sections.get(section).name(words)) {
            fail("does not stand in " + DOCUMENT + ", " + section);
        }
    }

    private static void checkThatSentenceIsTested() {
        if (checksOfSentence == 0) {
            fail("has no check");
        }
    }

    private static void fail(String what) {
        wrong++;
        System.out.println("promise " + promise + ", \"" + sentence + "\": " + what);
    }

    static void finish(boolean isOfTerms) {
        checkThatSentenceIsTested();
        sections.forEach((name, section) -> {
            if (name.equals(TERMS) == isOfTerms && !section.unnamed().isEmpty()) {
                wrong++;
                System.out.println(name + ": no test names: " + section.unnamed());
            }
        });
        System.out.println(sentences + " sentences, " + checks + " checks, " + wrong + " wrong");
        if (wrong != 0) {
            System.exit(1);
        }
    }

    // ---- checks

    static void due(String call, long got, long want) {
        checks++;
        checksOfSentence++;
        if (got != want) {
            fail(call + " answered " + got + ", due is " + want);
        }
    }

    static void dueText(String call, String got, String want) {
        checks++;
        checksOfSentence++;
        if (!got.equals(want)) {
            fail(call + " answered " + got + ", due is " + want);
        }
    }

    static void dueShare(String call, double got, double want) {
        due(call + " (bits)", Double.doubleToLongBits(got), Double.doubleToLongBits(want));
    }

    /** The call throws just this exception, and changes nothing. */
    static void dueThrows(PledgedLoans x, Class<?> want, String call, Call made) {
        long before = x.digest();
        String got;
        try {
            got = Long.toString(made.of());
        } catch (RuntimeException e) {
            got = e.getClass().getName();
        }
        dueText(call, got, want.getName());
        due(call + ", digest() behind it", x.digest(), before);
    }

    static void dueThrowsForMembers(PledgedLoans x, String call, NumberCall made) {
        for (int member : new int[] {-1, 6, Integer.MIN_VALUE, Integer.MAX_VALUE}) {
            dueThrows(x, INDEX, call + " of member " + member, () -> made.of(member));
        }
    }

    static void dueThrowsForAmounts(PledgedLoans x, String call, NumberCall made) {
        for (int amount : new int[] {0, -1, 10000, Integer.MIN_VALUE, Integer.MAX_VALUE}) {
            dueThrows(x, ARGUMENT, call + " of amount " + amount, () -> made.of(amount));
        }
    }

    static void dueThrowsForOthers(PledgedLoans x, Class<?> want, String call, int lowest, int highest, NumberCall made) {
        for (int what : new int[] {lowest - 1, highest + 1, Integer.MIN_VALUE, Integer.MAX_VALUE}) {
            dueThrows(x, want, call + " of " + what, () -> made.of(what));
        }
    }

    /** The call saves one state, that from before it: undo() brings just this one back. */
    static void dueUndoable(PledgedLoans x, String call, Call made) {
        String before = looks(x);
        int saved = x.count(11);
        made.of();
        due(call + ", saved states", x.count(11), Math.min(6, saved + 1));
        x.undo();
        dueText(call + ", then undo()", looks(x), before);
    }

    /** The call changes nothing and saves no state. */
    static void dueLook(PledgedLoans x, String call, Call made) {
        long before = x.digest();
        made.of();
        due(call + ", digest() behind it", x.digest(), before);
    }

    /** All that is to be seen, but for the saved states and the buffer. */
    static String looks(PledgedLoans x) {
        StringBuilder all = new StringBuilder();
        for (int what = 0; what < 11; what++) {
            all.append(x.count(what)).append(' ');
        }
        all.append("| ").append(x.setting(0)).append(' ').append(x.setting(1));
        for (int member = 0; member < 6; member++) {
            all.append(" |");
            for (int what = 0; what < 10; what++) {
                all.append(' ').append(x.memberOf(member, what));
            }
            for (int borrower = 0; borrower < 6; borrower++) {
                all.append(' ').append(x.pledged(member, borrower));
            }
        }
        return all.toString();
    }

    // ---- unions

    /** Members with these shares, from member 0 on. */
    static PledgedLoans union(int... shares) {
        PledgedLoans x = new PledgedLoans();
        for (int member = 0; member < shares.length; member++) {
            payAllIn(x, member, shares[member]);
        }
        return x;
    }

    static void payAllIn(PledgedLoans x, int member, int shares) {
        for (int left = shares; left > 0; left -= 9999) {
            x.payIn(member, Math.min(left, 9999));
        }
    }

    /** Member 0 has 100 shares and a loan with this rest, its weeks and the misses with which it falls due are 1. */
    static PledgedLoans lent(int rest, int... othersPledge) {
        PledgedLoans x = union(100);
        for (int i = 0; i < othersPledge.length; i++) {
            payAllIn(x, i + 1, 1000);
            x.pledge(i + 1, 0, othersPledge[i]);
        }
        x.set(1, 1);
        x.borrow(0, rest, 1);
        return x;
    }

    static void passAll(PledgedLoans x, int days) {
        for (int left = days; left > 0; left -= 99) {
            x.pass(Math.min(left, 99));
        }
    }

    static void type(PledgedLoans x, String text) {
        for (int i = 0; i < text.length(); i++) {
            x.append(text.charAt(i));
        }
    }

    static int typeAndRun(PledgedLoans x, String text) {
        x.clearBuffer();
        type(x, text);
        return x.run();
    }

    /**
     * Sets a number of the books by itself. Only for sentences that 512 calls of the face can't reach: a till that
     * has too little, and weeks that ended 9999 times.
     */
    static void force(PledgedLoans x, String number, int value) {
        try {
            Field books = PledgedLoans.class.getDeclaredField("books");
            books.setAccessible(true);
            Field field = books.getType().getDeclaredField(number);
            field.setAccessible(true);
            field.setInt(books.get(x), value);
        } catch (ReflectiveOperationException e) {
            fail("no number " + number + " in the books");
        }
    }
}
