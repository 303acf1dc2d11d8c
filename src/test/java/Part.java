import java.lang.annotation.ElementType;
import java.lang.annotation.Retention;
import java.lang.annotation.RetentionPolicy;
import java.lang.annotation.Target;

/** The heading of the document under which a test class's sentences stand. */
@Retention(RetentionPolicy.RUNTIME)
@Target(ElementType.TYPE)
@interface Part {
    String value();
}
