import java.lang.annotation.ElementType;
import java.lang.annotation.Retention;
import java.lang.annotation.RetentionPolicy;
import java.lang.annotation.Target;

/**
 * The words of the document that a test is for, behind 'Terms: ' or the number of the promise; what
 * stands last in brackets may be a remark on which case of them it is.
 */
@Retention(RetentionPolicy.RUNTIME)
@Target(ElementType.METHOD)
public @interface Says {
  String value();
}
