import java.lang.annotation.ElementType;
import java.lang.annotation.Retention;
import java.lang.annotation.RetentionPolicy;
import java.lang.annotation.Target;

/** The sentence of the document, word by word, that a test would see broken, and where it stands. */
@Retention(RetentionPolicy.RUNTIME)
@Target(ElementType.METHOD)
@interface Says {
    /** The number of the promise; 0, if it stands in none. */
    int promise() default 0;

    /** The number of the section of 'Terms'; 0, if it stands in none. */
    int section() default 0;

    String text();
}
