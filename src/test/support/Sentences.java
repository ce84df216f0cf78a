import java.lang.reflect.InvocationTargetException;
import java.lang.reflect.Method;
import java.lang.reflect.Modifier;

/** Runs the tests of a class: each method is one, and tells by Says which sentence it is for. */
public final class Sentences {
  public static void run(Class<?> tests, Due due) {
    for (Method test : tests.getDeclaredMethods()) {
      Says says = test.getAnnotation(Says.class);
      if (says != null) {
        due.begin(test.getName() + " (" + says.value() + ")");
        runOne(test, due);
      } else {
        // A test that has lost its Says would never run.
        boolean isTest = test.getParameterCount() == 0 && test.getReturnType() == void.class
            && !test.isSynthetic();
        due.is(test.getName() + " has its Says", isTest ? 0 : 1, 1);
      }
    }
    due.end();
  }

  private static void runOne(Method test, Due due) {
    int before = due.asked();
    try {
      test.setAccessible(true);
      test.invoke(null);
    } catch (InvocationTargetException thrown) {
      due.is("it threw " + thrown.getCause(), 1, 0);
    } catch (IllegalAccessException closed) {
      due.is("it can't be run: " + closed, 1, 0);
    }
    due.is("it is static and asks anything",
        Modifier.isStatic(test.getModifiers()) && due.asked() > before ? 1 : 0, 1);
  }
}
