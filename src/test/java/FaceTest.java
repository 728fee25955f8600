import java.lang.reflect.Constructor;
import java.lang.reflect.Field;
import java.lang.reflect.Member;
import java.lang.reflect.Method;
import java.lang.reflect.Modifier;
import java.nio.file.Files;
import java.nio.file.Path;
import java.util.Set;
import java.util.TreeSet;
import java.util.regex.Matcher;
import java.util.regex.Pattern;

/** The class's public face, and those rules of LANGUAGE.md that its file or its members show. Run in the project's folder. */
public final class FaceTest {
    private static final String[] FACE = {
        "int count(int)", "int feed(int,int,int,int,int,int)", "int text()", "int force(int)", "int asks(int,int,int,int)",
        "int joke(int,int)", "int told(int,int)", "int hearer(int,int)", "int set(int,int,int)", "int of(int,int)",
        "int yields(int,int)", "int tell(int,int)", "int pay(int,int,int)", "int fades(int)", "int night()",
        "int friday(int,int)", "int greedy(int,int)", "int mine(int,int,int)", "int round(int)", "int last(int)",
        "int caught(int,int)", "int panic(int,int)", "int seeds(int)", "int stop(int,int)", "int spread(int,int,int)",
        "int through(int,int)", "int origin(int,int,int)", "int furthest(int,int,int)", "int rate(int,int,int)",
        "long change(int,int,int)", "long gain(int,int,int)", "int judge(int,int)", "int humours(int,int)",
        "int heards(int,int,int)", "int kinds(int,int,int)", "int wear(int,int,int)", "int whose(int)", "int laws(int,int)",
        "long amiss(int,int)", "int film(int,int)", "int drawn(int,int)", "long odds(int,int,int,int)", "int image()",
        "int back()", "int sheet(int,int,int)", "int cell(int,int,int)", "int copy(int,int,int,int,int)",
        "int jokesBy(int,int,int,int)", "int taken(int,int)"};

    private static final Pattern HEAD = Pattern.compile("( {4}| {8})(?!if |for |while |switch |\\})(\\S.*\\b)(\\w+)\\(.*\\) \\{");

    public static void main(String[] args) throws Exception {
        constants();
        members();
        source();
        classes();
        Check.end("FaceTest");
    }

    private static void constants() throws Exception {
        Check.due("NONE", LaughterIsMinted.NONE, -1);
        Check.due("BAD", LaughterIsMinted.BAD, -2);
        Check.due("STATE", LaughterIsMinted.STATE, -3);
        Check.due("FULL", LaughterIsMinted.FULL, -4);
        Check.due("NO", LaughterIsMinted.NO, -4611686018427387904L);
        Set<String> names = new TreeSet<>();
        for (Field field : LaughterIsMinted.class.getDeclaredFields()) {
            if (!Modifier.isPrivate(field.getModifiers())) {
                names.add(Modifier.toString(field.getModifiers()) + " " + field.getType() + " " + field.getName());
            }
        }
        Check.so("constants " + names, names.equals(Set.of("public static final int NONE", "public static final int BAD",
            "public static final int STATE", "public static final int FULL", "public static final long NO")));
    }

    private static void members() {
        Check.so("public and final", LaughterIsMinted.class.getModifiers() == (Modifier.PUBLIC | Modifier.FINAL));
        Constructor<?>[] made = LaughterIsMinted.class.getDeclaredConstructors();
        Check.so("one constructor", made.length == 1 && made[0].getModifiers() == Modifier.PUBLIC
            && made[0].getParameterCount() == 0);
        Set<String> face = new TreeSet<>(Set.of(FACE));
        Set<String> names = names();
        for (Method method : LaughterIsMinted.class.getDeclaredMethods()) {
            if (isHidden(method)) {
                Check.so("private " + method.getName(), !names.contains(method.getName()));
            } else {
                Check.so("of the face: " + shape(method), face.remove(shape(method)));
                Check.so("public alone " + method, (method.getModifiers() & ~Modifier.PUBLIC) == 0);
            }
        }
        Check.so("missing: " + face, face.isEmpty());
    }

    private static Set<String> names() {
        Set<String> names = new TreeSet<>();
        for (String call : FACE) {
            names.add(call.substring(call.indexOf(' ') + 1, call.indexOf('(')));
        }
        return names;
    }

    private static boolean isHidden(Member member) {
        return Modifier.isPrivate(member.getModifiers()) || member.isSynthetic();
    }

    private static String shape(Method method) {
        StringBuilder all = new StringBuilder(method.getReturnType() + " " + method.getName() + "(");
        for (Class<?> type : method.getParameterTypes()) {
            all.append(all.charAt(all.length() - 1) == '(' ? "" : ",").append(type);
        }
        return all.append(")").toString();
    }

    private static void classes() {
        Class<?>[] inside = LaughterIsMinted.class.getDeclaredClasses();
        Check.so("some twelve classes", inside.length <= 11);
        for (Class<?> one : inside) {
            Check.so("static " + one, Modifier.isStatic(one.getModifiers()) && !Modifier.isPublic(one.getModifiers())
                && !Modifier.isProtected(one.getModifiers()));
            int fields = 0;
            for (Field field : one.getDeclaredFields()) {
                boolean constant = Modifier.isStatic(field.getModifiers());
                fields += constant ? 0 : 1;
                Check.so("final " + field, !constant || Modifier.isFinal(field.getModifiers()));
            }
            Check.so("some twenty fields", fields <= 20);
            for (Method method : one.getDeclaredMethods()) {
                Check.so("parameters " + method, method.getParameterCount() <= 7);
                Check.so("not named as a public one " + method, !names().contains(method.getName()));
                Check.so("not of an object " + method,
                    !Set.of("equals", "hashCode", "toString").contains(method.getName()));
            }
        }
    }

    private static void source() throws Exception {
        String text = Files.readString(Path.of("src/main/java/LaughterIsMinted.java"));
        Check.so("signs 1 to 127", text.chars().allMatch(c -> c > 0 && c < 128));
        String bare = text.replaceAll("(?s)/\\*.*?\\*/", " ").replaceAll("//[^\n]*", " ")
            .replaceAll("\"[^\"\n]*\"", "TEXT").replaceAll("'[^'\n]'", "SIGN");
        for (String word : new String[] {"throw", "throws", "try", "catch", "finally", "synchronized", "assert", "package",
            "import", "native", "volatile", "transient", "strictfp", "Exception", "Error", "Thread", "Random", "Object"}) {
            Check.so("no " + word, !bare.matches("(?s).*\\b" + word + "\\b.*"));
        }
        Check.so("no lambda, no method reference", !bare.contains("->") && !bare.contains("::"));
        Check.so("no Exact", !bare.contains("Exact"));
        methods(bare.split("\n"));
    }

    /** A method's lines: from one that ends in ") {" to the brace at the same place. */
    private static void methods(String[] lines) {
        int longest = 0;
        int itself = 0;
        for (int i = 0; i < lines.length; i++) {
            Matcher head = HEAD.matcher(lines[i]);
            if (!head.matches()) {
                continue;
            }
            int to = i + 1;
            boolean calls = false;
            while (to < lines.length && !lines[to].equals(head.group(1) + "}")) {
                calls |= lines[to].matches(".*(?<![.\\w])" + head.group(3) + "\\(.*");
                to++;
            }
            itself += calls ? 1 : 0;
            Check.so(head.group(3) + " calls itself, so it is private and static",
                !calls || head.group(2).startsWith("private static "));
            longest = Math.max(longest, to - i + 1);
        }
        Check.so("the longest method: " + longest, longest <= 60 && longest > 5);
        Check.so("some method calls itself", itself > 0);
    }
}
