import java.lang.reflect.Constructor;
import java.lang.reflect.Field;
import java.lang.reflect.Member;
import java.lang.reflect.Method;
import java.lang.reflect.Modifier;
import java.util.Arrays;
import java.util.Set;
import java.util.TreeSet;

/** The class has the document's public face, and no other member that can be seen from outside. */
public final class FaceTest {
    private static final Set<String> FACE = new TreeSet<>(Arrays.asList(
        "public WordGraph()",
        "public int WordGraph.add(long)",
        "public boolean WordGraph.seal()",
        "public void WordGraph.clear()",
        "public int WordGraph.size()",
        "public long WordGraph.word(int)",
        "public int WordGraph.find(long)",
        "public int WordGraph.nodes()",
        "public int WordGraph.step(int,int)",
        "public boolean WordGraph.ends(int)",
        "public int WordGraph.endings(int)",
        "public int WordGraph.distance(long,int)",
        "public int WordGraph.search(long,int)",
        "public int WordGraph.result(int)",
        "public int WordGraph.far(int)"));

    private static boolean isSeen(Member member) {
        return !Modifier.isPrivate(member.getModifiers()) && !member.isSynthetic();
    }

    private static Set<String> seenMembers() {
        Set<String> seen = new TreeSet<>();
        for (Constructor<?> made : WordGraph.class.getDeclaredConstructors()) {
            if (isSeen(made)) {
                seen.add(made.toString());
            }
        }
        for (Method method : WordGraph.class.getDeclaredMethods()) {
            if (isSeen(method)) {
                seen.add(method.toString());
            }
        }
        for (Field field : WordGraph.class.getDeclaredFields()) {
            if (isSeen(field)) {
                seen.add(field.toString());
            }
        }
        return seen;
    }

    private static int namesUsedTwice() {
        Set<String> names = new TreeSet<>();
        int twice = 0;
        for (Method method : WordGraph.class.getDeclaredMethods()) {
            if (!method.isSynthetic() && !names.add(method.getName())) {
                twice++;
                System.out.println("two methods have the name " + method.getName());
            }
        }
        return twice;
    }

    public static void main(String[] args) {
        int wrong = namesUsedTwice();
        Set<String> seen = seenMembers();
        if (!seen.equals(FACE)) {
            wrong++;
            System.out.println("the face is " + seen + ", due is " + FACE);
        }
        int kind = WordGraph.class.getModifiers();
        if (!Modifier.isPublic(kind) || !Modifier.isFinal(kind)) {
            wrong++;
            System.out.println("the class is not public and final");
        }
        System.out.println(wrong == 0 ? "the face is as due" : "the face is not as due");
        if (wrong != 0) {
            System.exit(1);
        }
    }
}
