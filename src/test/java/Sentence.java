import java.lang.annotation.ElementType;
import java.lang.annotation.Retention;
import java.lang.annotation.RetentionPolicy;
import java.lang.annotation.Target;

/** The sentence of the document, or a part of it, whose boundary a test is about. */
@Retention(RetentionPolicy.RUNTIME)
@Target(ElementType.METHOD)
@interface Sentence {
    /** "Terms", "Terms 1" to "Terms 5", "Constants", "What it is" or "Promise 1" to "Promise 64". */
    String in();

    String says();
}
