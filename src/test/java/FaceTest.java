import java.io.IOException;
import java.lang.reflect.Constructor;
import java.lang.reflect.Field;
import java.lang.reflect.Method;
import java.lang.reflect.Modifier;
import java.nio.file.Files;
import java.nio.file.Path;
import java.util.Set;
import java.util.TreeSet;
import java.util.regex.Matcher;
import java.util.regex.Pattern;

/** The public face of the document, its constants, and the rules of LANGUAGE.md that a look at the code can tell. */
public final class FaceTest {
    private static final String[] METHODS = {
        "int setFrame(int)", "int setWave(int,int)", "int setBlock(int,int)", "int setInitialDelay(int)",
        "int setQuantile(int)", "int setMargin(int)", "int setAdapting(boolean)", "int arrive(int)",
        "int arriveParity(boolean,int,int)", "int advance(int)", "int time()", "int start()", "int output(int)",
        "int outputs()", "int left()", "int next()", "int kind(int)", "int state(int)", "int sample(int,int)",
        "int missing(boolean,int,int)", "int unrestorable(int)", "int paritySample(boolean,int,int,int)",
        "int transits()", "int transit(int)", "int target()", "int level()", "int taken(int)", "int stretched()",
        "int compressed()", "int late()", "int duplicates()", "int loss(boolean)", "int longestGap()",
        "int ticksToGap()", "int gapsIn(int)", "int ticksToFrame(int)", "int append(int)", "int clearText()",
        "int faultPosition()", "int schedule()", "int scheduled()", "int keep(int)", "int restore(int)",
        "long checksum()"};
    private static final Set<String> CONSTANTS =
            Set.of("BAD_VALUE", "FULL", "NOT_POSSIBLE", "NONE", "PLAYED", "RESTORED", "CONCEALED");

    public static void main(String[] args) throws IOException {
        constants();
        publicFace();
        classesInside();
        words(Files.readString(Path.of(args[0])));
        Due.end();
    }

    private static void constants() {
        Due.due("BAD_VALUE", PlayoutBuffer.BAD_VALUE, -1001);
        Due.due("FULL", PlayoutBuffer.FULL, -1002);
        Due.due("NOT_POSSIBLE", PlayoutBuffer.NOT_POSSIBLE, -1003);
        Due.due("NONE", PlayoutBuffer.NONE, -1004);
        Due.due("PLAYED", PlayoutBuffer.PLAYED, 1);
        Due.due("RESTORED", PlayoutBuffer.RESTORED, 2);
        Due.due("CONCEALED", PlayoutBuffer.CONCEALED, 3);
    }

    private static void publicFace() {
        Due.due("the class is public and final", PlayoutBuffer.class.getModifiers(), Modifier.PUBLIC | Modifier.FINAL);
        Set<String> open = new TreeSet<>();
        for (Method method : PlayoutBuffer.class.getDeclaredMethods()) {
            if (!Modifier.isPrivate(method.getModifiers())) {
                open.add(signature(method));
                Due.due(method + " is public alone", method.getModifiers(), Modifier.PUBLIC);
            }
        }
        for (String method : METHODS) {
            Due.due("there is " + method, open.contains(method) ? 1 : 0, 1);
        }
        Due.due("the number of methods " + open, open.size(), METHODS.length);
        for (Constructor<?> constructor : PlayoutBuffer.class.getDeclaredConstructors()) {
            Due.due("the constructor is public", constructor.getModifiers(), Modifier.PUBLIC);
            Due.due("the constructor's parameters", constructor.getParameterCount(), 0);
        }
        int fields = 0;
        for (Field field : PlayoutBuffer.class.getDeclaredFields()) {
            if (!Modifier.isPrivate(field.getModifiers())) {
                fields++;
                Due.due("in the document: " + field, CONSTANTS.contains(field.getName()) ? 1 : 0, 1);
                Due.due(field + " is a constant", field.getModifiers(),
                        Modifier.PUBLIC | Modifier.STATIC | Modifier.FINAL);
            }
        }
        Due.due("the number of constants", fields, CONSTANTS.size());
    }

    private static String signature(Method method) {
        StringBuilder text = new StringBuilder(method.getReturnType() + " " + method.getName() + "(");
        for (Class<?> type : method.getParameterTypes()) {
            text.append(text.charAt(text.length() - 1) == '(' ? "" : ",").append(type);
        }
        return text.append(")").toString();
    }

    private static void classesInside() {
        Set<String> names = new TreeSet<>();
        for (String method : METHODS) {
            names.add(method.replaceAll(".* |\\(.*", ""));
        }
        Class<?>[] inside = PlayoutBuffer.class.getDeclaredClasses();
        Due.due("at most 12 classes", inside.length < 12 ? 1 : 0, 1);
        for (Class<?> type : inside) {
            int modifiers = type.getModifiers();
            Due.due(type + " is static", Modifier.isStatic(modifiers) ? 1 : 0, 1);
            Due.due(type + " is not open", modifiers & (Modifier.PUBLIC | Modifier.PROTECTED), 0);
            checkMembers(type, names);
        }
        checkMembers(PlayoutBuffer.class, names);
    }

    private static void checkMembers(Class<?> type, Set<String> faceNames) {
        for (Field field : type.getDeclaredFields()) {
            int modifiers = field.getModifiers();
            Due.due(field + ", if static, is final", Modifier.isStatic(modifiers) && !Modifier.isFinal(modifiers) ? 1 : 0, 0);
        }
        for (Method method : type.getDeclaredMethods()) {
            boolean face = Modifier.isPublic(method.getModifiers());
            Due.due(method + " has a name of its own", !face && faceNames.contains(method.getName()) ? 1 : 0, 0);
            Due.due(method + " has at most 7 parameters", method.getParameterCount() <= 7 ? 1 : 0, 1);
        }
    }

    private static void words(String source) {
        String code = source.replaceAll("(?s)/\\*.*?\\*/", "").replaceAll("//[^\n]*", "");
        Matcher matcher = Pattern.compile(
                "\\b(throw|throws|try|catch|synchronized|assert|import|package|protected|Object|Random|System\\.(?!arraycopy\\b)"
                + "|Thread|equals|hashCode|toString)\\b|->|::|@").matcher(code.replaceAll("'.'", "''"));
        Due.due("the code keeps to the language", matcher.find() ? 1 : 0, 0);
        for (int i = 0; i < source.length(); i++) {
            if (source.charAt(i) > 126) {
                Due.due("sign " + i + " of the source", source.charAt(i), '?');
            }
        }
    }
}
