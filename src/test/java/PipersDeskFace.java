import java.lang.reflect.Constructor;
import java.lang.reflect.Field;
import java.lang.reflect.Method;
import java.lang.reflect.Modifier;
import java.util.Arrays;
import java.util.TreeSet;

/** The public face: what the document lists is there, and nothing else can be seen. */
public final class PipersDeskFace {
  private static final String[] FACE = {
    "public int addNote(int,int,int) throws IllegalArgumentException,IllegalStateException",
    "public float average(int) throws IllegalArgumentException,IllegalStateException",
    "public int choices(int) throws IllegalArgumentException",
    "public int chosen(int,int) throws IllegalArgumentException,IndexOutOfBoundsException,IllegalStateException",
    "public int cost(int,int) throws IllegalArgumentException",
    "public int enter() throws IllegalStateException",
    "public boolean fits(int,int,int,int) throws IndexOutOfBoundsException,IllegalArgumentException",
    "public int fitting(int,int) throws IllegalArgumentException,IndexOutOfBoundsException",
    "public int grace(int) throws IllegalArgumentException,IllegalStateException",
    "public boolean isBarred(int,int) throws IllegalArgumentException",
    "public int least(int) throws IllegalArgumentException,IllegalStateException",
    "public int leastSet() throws IllegalStateException",
    "public int mostOrnaments(int) throws IllegalArgumentException,IllegalStateException",
    "public int notes(int) throws IllegalArgumentException",
    "public int ornaments()",
    "public int removeNote(int) throws IllegalArgumentException,NoSuchElementException",
    "public int setLimit(int) throws IllegalArgumentException",
    "public boolean setWish(int,int,boolean) throws IllegalArgumentException,IndexOutOfBoundsException",
    "public int sets()",
    "public int time(int,int) throws IllegalArgumentException,IndexOutOfBoundsException,IllegalStateException",
    "public int tuneAt(int) throws IllegalStateException,IndexOutOfBoundsException"
  };

  private static int wrong = 0;

  private static void due(String what, Object got, Object want) {
    if (!got.equals(want)) {
      wrong++;
      System.out.println(what + " is " + got + ", due is " + want);
    }
  }

  public static void main(String[] args) {
    due("the class", Modifier.toString(PipersDesk.class.getModifiers()), "public final");
    due("the class above", PipersDesk.class.getSuperclass(), Object.class);
    due("the interfaces", PipersDesk.class.getInterfaces().length, 0);
    TreeSet<String> methods = new TreeSet<>();
    for (Method method : PipersDesk.class.getDeclaredMethods()) {
      if (!Modifier.isPrivate(method.getModifiers()) && !method.isSynthetic()) {
        methods.add(faceOf(method));
      }
    }
    due("the methods", methods, new TreeSet<>(Arrays.asList(FACE)));
    TreeSet<String> constructors = new TreeSet<>();
    for (Constructor<?> constructor : PipersDesk.class.getDeclaredConstructors()) {
      constructors.add(constructor.toString());
    }
    due("the constructors", constructors.toString(), "[public PipersDesk()]");
    for (Field field : PipersDesk.class.getDeclaredFields()) {
      due("the field " + field.getName() + " hidden", Modifier.isPrivate(field.getModifiers()), true);
    }
    System.out.println(wrong == 0 ? "the face is as due" : wrong + " parts of the face are not as due");
    if (wrong != 0) System.exit(1);
  }

  private static String faceOf(Method method) {
    return method.toString().replace("PipersDesk.", "").replace("java.lang.", "").replace("java.util.", "");
  }
}
