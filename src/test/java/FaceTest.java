import java.lang.reflect.Constructor;
import java.lang.reflect.Field;
import java.lang.reflect.Method;
import java.lang.reflect.Modifier;
import java.util.Arrays;
import java.util.Set;
import java.util.TreeSet;

/** The public face, and promise 1. */
public final class FaceTest extends Check {
    private static final String[] METHODS = {
        "int define()", "int layout(int,int,int)", "int fail(int)", "int start()", "int get(int)",
        "int set(int,int)", "int compact()", "int migrate(int)", "int factory(int)", "int cell(int,int)",
        "int spoil(int,int,int)", "int page(int,int)", "int state(int)", "int record(int)",
        "int ifMigrated(int,int)", "int ifFailed(int,int,int,int)", "int put(long)", "int wipe()",
        "int fault()", "int keep(int)", "int back(int)"};

    public static void main(String[] args) {
        constants();
        members();
        promise01();
        end();
    }

    private static void constants() {
        due("NO_SUCH", SettingsVault.NO_SUCH, -1);
        due("BAD_VALUE", SettingsVault.BAD_VALUE, -2);
        due("BAD_TEXT", SettingsVault.BAD_TEXT, -3);
        due("TOO_MANY", SettingsVault.TOO_MANY, -4);
        due("NOT_POSSIBLE", SettingsVault.NOT_POSSIBLE, -5);
        due("NONE", SettingsVault.NONE, -6);
    }

    private static void members() {
        Class<?> face = SettingsVault.class;
        due("public final", face.getModifiers() & (Modifier.PUBLIC | Modifier.FINAL),
            Modifier.PUBLIC | Modifier.FINAL);
        Set<String> due = new TreeSet<>(Arrays.asList(METHODS));
        Set<String> names = new TreeSet<>();
        for (String method : METHODS) {
            names.add(method.substring(4, method.indexOf('(')));
        }
        for (Method method : face.getDeclaredMethods()) {
            if (Modifier.isPrivate(method.getModifiers())) {
                due("private " + method, names.contains(method.getName()) ? 1 : 0, 0);
            } else {
                due("extra " + method, due.remove(signature(method)) ? 0 : 1, 0);
                due("modifiers of " + method, method.getModifiers(), Modifier.PUBLIC);
            }
        }
        due("missing " + due, due.size(), 0);
        for (Field field : face.getDeclaredFields()) {
            boolean isConstant = Modifier.isPublic(field.getModifiers());
            due("field " + field, isConstant || Modifier.isPrivate(field.getModifiers()) ? 1 : 0, 1);
        }
        Constructor<?>[] constructors = face.getDeclaredConstructors();
        due("constructors", constructors.length, 1);
        due("parameters of it", constructors[0].getParameterCount(), 0);
    }

    private static String signature(Method method) {
        StringBuilder text = new StringBuilder();
        text.append(method.getReturnType().getSimpleName()).append(' ').append(method.getName()).append('(');
        for (Class<?> type : method.getParameterTypes()) {
            text.append(text.charAt(text.length() - 1) == '(' ? "" : ",").append(type.getSimpleName());
        }
        return text.append(')').toString();
    }

    private static void promise01() {
        SettingsVault vault = new SettingsVault();
        dueStates("new", vault, 0, 1, NONE, NONE, NONE, 0, 0, 0, 0, 0, NONE, 0, 0, 0);
        for (int page = 0; page < 2; page++) {
            for (int index = 0; index < 48; index++) {
                due("new: cell " + index, vault.cell(page, index), NONE);
            }
            for (int what = 0; what < 6; what++) {
                due("new: page, " + what, vault.page(page, what), 0);
            }
        }
        due("new: layout", vault.layout(0, 0, 0), NO_SUCH);
        due("new: back", vault.back(0), NOT_POSSIBLE);
        due("new: get", vault.get(0), NO_SUCH);
        due("new: start", vault.start(), NONE);
        vault.put(97);
        due("objects share nothing", new SettingsVault().state(12), 0);
    }
}
