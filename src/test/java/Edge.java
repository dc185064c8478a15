import java.lang.annotation.ElementType;
import java.lang.annotation.Retention;
import java.lang.annotation.RetentionPolicy;
import java.lang.annotation.Target;

/** On a test of a boundary case: where the document names it, and in which words (they stand there once). */
@Retention(RetentionPolicy.RUNTIME)
@Target(ElementType.METHOD)
@interface Edge {
    /** "Terms 0" (ahead of 1) to "Terms 5", or "Promise 1" to "Promise 49". */
    String at();

    String says();
}
