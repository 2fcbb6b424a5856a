import java.io.IOException;
import java.lang.management.ManagementFactory;
import java.lang.reflect.Constructor;
import java.lang.reflect.Field;
import java.lang.reflect.Method;
import java.lang.reflect.Modifier;
import java.nio.file.Files;
import java.nio.file.Path;
import java.util.ArrayList;
import java.util.Arrays;
import java.util.Collections;
import java.util.HashSet;
import java.util.List;
import java.util.Set;
import java.util.regex.Matcher;
import java.util.regex.Pattern;

/** The face of the class, and the rules of LANGUAGE.md that can be looked at from outside. Run from the project's root. */
public final class PledgedLoansFormTest {
    private static final String[] FACE = {
        "int payIn(int,int) Index Argument", "int payOut(int,int) Index Argument",
        "int pledge(int,int,int) Index Argument", "int unpledge(int,int,int) Index Argument",
        "int borrow(int,int,int) Index Argument", "int repay(int,int) Index Argument",
        "int week() State", "int pass(int) Argument State", "int dividend()",
        "int set(int,int) Index Argument", "int append(int) Argument State", "int clearBuffer()",
        "int firstError()", "int run() Argument", "int keep(int) Argument", "int goBack(int) Argument State",
        "int undo() State", "int memberOf(int,int) Index Argument", "int pledged(int,int) Index",
        "int count(int) Argument", "int setting(int) Index", "int whyNot(int,int) Index Argument",
        "int greatest(int,int) Index Argument", "int guarantors(int,int,int) Index Argument",
        "int weeksLeft(int,int) Index Argument", "int ifDivided(int) Index", "int riskiest()",
        "double lentShare()", "long digest()",
    };

    /** What the rules leave out, and what the task does: each as a pattern that the file must not have. */
    private static final String[] FORBIDDEN = {
        "\\bimport\\b", "\\bpackage\\b", "->", "::", "\\bfinally\\b", "\\bsynchronized\\b", "\\bassert\\b",
        "\\bcatch\\b", "\\bextends\\b", "\\bvar\\b", "Exact\\b", "\\bDouble\\b", "\\bSystem\\.(?!arraycopy)",
        "\\bhashCode\\b", "\\btoString\\b", "\\+ \"", "\" \\+", "static \\{", "\\bfloat\\b", "\\bThread\\b",
    };

    private static int wrong = 0;

    private static void check(boolean holds, String what) {
        if (!holds) {
            wrong++;
            System.out.println("does not hold: " + what);
        }
    }

    public static void main(String[] args) throws IOException {
        face();
        names();
        text(Files.readString(Path.of("src/main/java/PledgedLoans.java")));
        room();
        System.out.println(wrong == 0 ? "the form is as due" : wrong + " wrong");
        if (wrong != 0) {
            System.exit(1);
        }
    }

    private static void face() {
        Class<?> type = PledgedLoans.class;
        check(type.getModifiers() == (Modifier.PUBLIC | Modifier.FINAL), "public and final");
        List<String> methods = new ArrayList<>();
        for (Method m : type.getDeclaredMethods()) {
            if (Modifier.isPublic(m.getModifiers())) {
                methods.add(signature(m));
            } else {
                check(Modifier.isPrivate(m.getModifiers()), m + " is private");
            }
        }
        List<String> due = new ArrayList<>(Arrays.asList(FACE));
        Collections.sort(due);
        Collections.sort(methods);
        check(methods.equals(due), "the face is " + due + ", but: " + methods);
        for (Field f : type.getDeclaredFields()) {
            check(Modifier.isPrivate(f.getModifiers()) || f.getName().equals("NONE"), f + " is private");
        }
        Constructor<?>[] constructors = type.getDeclaredConstructors();
        check(constructors.length == 1 && constructors[0].getParameterCount() == 0
            && Modifier.isPublic(constructors[0].getModifiers()), "one public constructor");
        check(PledgedLoans.NONE == -1, "NONE");
    }

    private static String signature(Method m) {
        StringBuilder text = new StringBuilder(m.getReturnType() + " " + m.getName() + "(");
        for (Class<?> each : m.getParameterTypes()) {
            text.append(text.charAt(text.length() - 1) == '(' ? "" : ",").append(each);
        }
        text.append(')');
        for (Class<?> each : m.getExceptionTypes()) {
            text.append(each == IndexOutOfBoundsException.class ? " Index"
                : each == IllegalArgumentException.class ? " Argument"
                : each == IllegalStateException.class ? " State" : " " + each);
        }
        return text.toString();
    }

    private static void names() {
        Set<String> open = new HashSet<>();
        for (Method m : PledgedLoans.class.getMethods()) {
            open.add(m.getName());
        }
        List<Class<?>> types = new ArrayList<>(Arrays.asList(PledgedLoans.class.getDeclaredClasses()));
        types.add(PledgedLoans.class);
        check(types.size() <= 12, "at most some twelve classes");
        for (Class<?> type : types) {
            int fields = 0;
            for (Field f : type.getDeclaredFields()) {
                if (Modifier.isStatic(f.getModifiers())) {
                    check(Modifier.isFinal(f.getModifiers()), f + " is final");
                } else {
                    fields++;
                }
            }
            check(fields <= 20, "at most some twenty fields in " + type);
            for (Method m : type.getDeclaredMethods()) {
                check(m.getParameterCount() <= 7, m + " takes at most seven");
                check(Modifier.isPublic(m.getModifiers()) || !open.contains(m.getName()), m + " bears a public name");
            }
        }
    }

    private static void text(String file) {
        String code = file.replaceAll("(?s)/\\*.*?\\*/", "").replaceAll("//[^\\n]*", "");
        for (String each : FORBIDDEN) {
            Matcher found = Pattern.compile(each).matcher(code);
            check(!found.find(), "no " + each + " in the code");
        }
        for (char sign : file.toCharArray()) {
            check(sign < 128, "signs from 1 to 127, but: " + sign);
        }
        int length = 0;
        for (String line : file.split("\n")) {
            length = line.matches(" +\\S.*\\) *(throws .*)?\\{") && !line.matches(" +(\\}|if|for|while|switch).*")
                ? 0 : length + 1;
            boolean isEnd = line.matches("( {4}| {8})\\}");
            check(!isEnd || length <= 60, "some sixty lines in a method, before: " + line);
        }
    }

    /** No call makes an object: all calls of a run live in one room. */
    private static void room() {
        com.sun.management.ThreadMXBean bean = (com.sun.management.ThreadMXBean) ManagementFactory.getThreadMXBean();
        PledgedLoans x = new PledgedLoans();
        calls(x);
        long thread = Thread.currentThread().getId();
        long before = bean.getThreadAllocatedBytes(thread);
        for (int i = 0; i < 100; i++) {
            calls(x);
        }
        long bytes = bean.getThreadAllocatedBytes(thread) - before;
        check(bytes < 20000, "2000 calls make nothing, but: " + bytes + " bytes");
    }

    private static void calls(PledgedLoans x) {
        x.payIn(0, 100);
        x.payIn(1, 50);
        x.pledge(0, 1, 20);
        x.borrow(1, 60, 6);
        x.repay(1, 5);
        x.week();
        x.pass(1);
        x.dividend();
        x.set(0, 30);
        x.append('w');
        x.append(';');
        x.append('w');
        x.firstError();
        x.run();
        x.keep(0);
        x.goBack(0);
        x.undo();
        x.guarantors(3, 1000, 0);
        x.guarantors(3, 1000, 1);
        x.greatest(0, 1);
        x.digest();
    }
}
