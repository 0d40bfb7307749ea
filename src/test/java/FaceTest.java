import java.lang.reflect.Constructor;
import java.lang.reflect.Field;
import java.lang.reflect.Member;
import java.lang.reflect.Method;
import java.lang.reflect.Modifier;
import java.util.Arrays;
import java.util.Set;
import java.util.TreeSet;

/** The public face of the document, and nothing beside it. */
public final class FaceTest {
    private static final Check check = new Check("FaceTest");
    private static final String[] FACE = {
        "public static final int CipherNotation.NONE",
        "public CipherNotation()",
        "public int CipherNotation.write(long)",
        "public int CipherNotation.wipe()",
        "public int CipherNotation.compile()",
        "public int CipherNotation.place()",
        "public int CipherNotation.number(int) throws STATE,ARGUMENT",
        "public int CipherNotation.print(int)",
        "public int CipherNotation.table(int,int,boolean) throws STATE,INDEX",
        "public long CipherNotation.key(int,long) throws STATE,INDEX,ARGUMENT",
        "public long CipherNotation.state(int,long) throws STATE,INDEX,ARGUMENT",
        "public long CipherNotation.keyWord(int) throws STATE,INDEX",
        "public long CipherNotation.word(int) throws STATE,INDEX",
        "public long CipherNotation.subkey(int) throws STATE,INDEX",
        "public int CipherNotation.encrypt() throws STATE",
        "public int CipherNotation.decrypt() throws STATE",
        "public int CipherNotation.apply(int,int) throws STATE,ARGUMENT",
    };

    public static void main(String[] args) {
        Set<String> due = new TreeSet<>(Arrays.asList(FACE));
        Set<String> seen = new TreeSet<>();
        Set<String> publicNames = new TreeSet<>();
        Set<String> privateNames = new TreeSet<>();
        for (Field field : CipherNotation.class.getDeclaredFields()) {
            addVisible(seen, field, field.toString());
        }
        for (Constructor<?> constructor : CipherNotation.class.getDeclaredConstructors()) {
            addVisible(seen, constructor, constructor.toString());
        }
        for (Method method : CipherNotation.class.getDeclaredMethods()) {
            addVisible(seen, method, method.toString());
            (Modifier.isPublic(method.getModifiers()) ? publicNames : privateNames).add(method.getName());
        }
        check.due("the face", seen.toString(), due.toString());
        check.due("the class", Modifier.toString(CipherNotation.class.getModifiers()), "public final");
        for (Class<?> inside : CipherNotation.class.getDeclaredClasses()) {
            int modifiers = inside.getModifiers();
            check.due(inside + " is static", Modifier.isStatic(modifiers) ? 1 : 0, 1);
            check.due(inside + " is public or protected", modifiers & (Modifier.PUBLIC | Modifier.PROTECTED), 0);
            for (Method method : inside.getDeclaredMethods()) {
                privateNames.add(method.getName());
            }
        }
        privateNames.retainAll(publicNames);
        check.due("other methods with a name of the face", privateNames.toString(), "[]");
        check.end();
    }

    private static void addVisible(Set<String> seen, Member member, String description) {
        if (!Modifier.isPrivate(member.getModifiers())) {
            seen.add(description.replace("java.lang.IllegalStateException", "STATE")
                .replace("java.lang.IllegalArgumentException", "ARGUMENT")
                .replace("java.lang.IndexOutOfBoundsException", "INDEX"));
        }
    }
}
