import java.lang.reflect.Constructor;
import java.lang.reflect.Field;
import java.lang.reflect.Method;
import java.lang.reflect.Modifier;
import java.util.Set;
import java.util.TreeSet;

/** The class has just the face that the document shows. */
public final class FaceTest {
    private static final String[] FACE = {
        "public static final int NONE",
        "public TraceBook()",
        "public int TraceBook.wire(int) throws java.lang.IllegalArgumentException,java.lang.IllegalStateException",
        "public int TraceBook.wires()",
        "public int TraceBook.width(int) throws java.lang.IndexOutOfBoundsException",
        "public void TraceBook.open(long,long) throws java.lang.IllegalArgumentException,java.lang.IllegalStateException",
        "public boolean TraceBook.change(int,int,int) throws java.lang.IndexOutOfBoundsException,"
            + "java.lang.IllegalArgumentException,java.lang.IllegalStateException",
        "public int TraceBook.close() throws java.lang.IllegalStateException",
        "public int TraceBook.moments()",
        "public long TraceBook.moment(int,int) throws java.lang.IndexOutOfBoundsException,java.lang.IllegalArgumentException",
        "public int TraceBook.changed(int,int,int) throws java.lang.IndexOutOfBoundsException,"
            + "java.lang.IllegalArgumentException",
        "public int TraceBook.at(long,long,int,int) throws java.lang.IndexOutOfBoundsException",
        "public int TraceBook.next(int,int) throws java.lang.IndexOutOfBoundsException,java.lang.IllegalArgumentException",
        "public int TraceBook.size()",
        "public int TraceBook.byteAt(int) throws java.lang.IndexOutOfBoundsException",
        "public int TraceBook.feed(int) throws java.lang.IllegalStateException",
        "public void TraceBook.end(int) throws java.lang.IllegalArgumentException",
        "public int TraceBook.load()",
    };

    public static void main(String[] args) {
        Set<String> due = new TreeSet<>(Set.of(FACE));
        Set<String> got = new TreeSet<>();
        Set<String> publicNames = new TreeSet<>();
        boolean good = true;
        for (Field field : TraceBook.class.getDeclaredFields()) {
            if (!Modifier.isPrivate(field.getModifiers())) {
                got.add(Modifier.toString(field.getModifiers()) + " " + field.getType() + " " + field.getName());
            }
        }
        for (Constructor<?> made : TraceBook.class.getDeclaredConstructors()) {
            got.add(made.toGenericString());
        }
        for (Method method : TraceBook.class.getDeclaredMethods()) {
            if (!Modifier.isPrivate(method.getModifiers())) {
                got.add(method.toGenericString());
                publicNames.add(method.getName());
            }
        }
        for (Method method : TraceBook.class.getDeclaredMethods()) {
            if (Modifier.isPrivate(method.getModifiers()) && publicNames.contains(method.getName())) {
                System.out.println("a private method bears the name of a public one: " + method);
                good = false;
            }
        }
        if (Modifier.toString(TraceBook.class.getModifiers()).equals("public final") && got.equals(due)
            && TraceBook.NONE == -1 && good) {
            System.out.println("the face is as due");
            return;
        }
        System.out.println("the face is " + got + ", due is " + due + ", public and final, with NONE -1");
        System.exit(1);
    }
}
