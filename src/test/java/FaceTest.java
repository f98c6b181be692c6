import java.lang.reflect.Constructor;
import java.lang.reflect.Field;
import java.lang.reflect.Method;
import java.lang.reflect.Modifier;
import java.util.Arrays;
import java.util.TreeSet;

/** The face has what the document names and nothing beyond it (rules 1 and 5 of LANGUAGE.md). */
public final class FaceTest {
  private static int wrong = 0;

  private static void due(String what, Object got, Object want) {
    if (!got.equals(want)) { wrong++; System.out.println(what + ": got " + got + ", due is " + want); }
  }

  public static void main(String[] args) {
    Class<?> face = ChainSolves.class;
    due("public and final", face.getModifiers(), Modifier.PUBLIC | Modifier.FINAL);
    due("methods", publicMethods(face), new TreeSet<>(Arrays.asList(
        "void clear []", "int state []", "int arc [int, int, int]", "int reward [int, int]", "int part [int]",
        "int closed [int]", "int period [int]", "int alike [int]", "int ever [int, int]", "int again [int]",
        "int before [int, int, int]", "int steps [int, int]", "int visits [int, int]", "int share [int, int]",
        "int after [int, int, int]", "int worth [int]", "long upper []", "long lower []", "int told [int]")));
    due("constants", publicFields(face), new TreeSet<>(Arrays.asList("int NONE")));
    due("NONE", ChainSolves.NONE, -1);
    Constructor<?>[] constructors = face.getDeclaredConstructors();
    due("constructors", constructors.length, 1);
    due("the constructor", constructors[0].toString(), "public ChainSolves()");
    for (Class<?> inside : face.getDeclaredClasses()) {
      due("private or package-visible: " + inside, (inside.getModifiers() & (Modifier.PUBLIC | Modifier.PROTECTED)) == 0, true);
      onlyFinalStatics(inside);
      noNameOfTheFace(face, inside);
    }
    onlyFinalStatics(face);
    noNameOfTheFace(face, face);
    System.out.println(wrong == 0 ? "the face is as due" : wrong + " faults in the face");
    if (wrong != 0) System.exit(1);
  }

  private static TreeSet<String> publicMethods(Class<?> face) {
    TreeSet<String> found = new TreeSet<>();
    for (Method m : face.getDeclaredMethods()) {
      if (m.isSynthetic() || Modifier.isPrivate(m.getModifiers())) continue;
      due("public: " + m, m.getModifiers(), Modifier.PUBLIC);
      String[] types = new String[m.getParameterCount()];
      for (int i = 0; i < types.length; i++) types[i] = m.getParameterTypes()[i].getSimpleName();
      found.add(m.getReturnType() + " " + m.getName() + " " + Arrays.toString(types));
    }
    return found;
  }

  private static TreeSet<String> publicFields(Class<?> face) {
    TreeSet<String> found = new TreeSet<>();
    for (Field f : face.getDeclaredFields()) {
      if (!Modifier.isPrivate(f.getModifiers())) found.add(f.getType() + " " + f.getName());
    }
    return found;
  }

  private static void onlyFinalStatics(Class<?> c) {
    for (Field f : c.getDeclaredFields()) {
      if (Modifier.isStatic(f.getModifiers())) due("final: " + f, Modifier.isFinal(f.getModifiers()), true);
    }
  }

  private static void noNameOfTheFace(Class<?> face, Class<?> c) {
    for (Method m : c.getDeclaredMethods()) {
      if (!Modifier.isPrivate(m.getModifiers())) continue;
      for (Method open : face.getDeclaredMethods()) {
        if (Modifier.isPublic(open.getModifiers())) due("a name of its own: " + m, !m.getName().equals(open.getName()), true);
      }
    }
  }
}
