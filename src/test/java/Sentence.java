import java.lang.annotation.ElementType;
import java.lang.annotation.Retention;
import java.lang.annotation.RetentionPolicy;
import java.lang.annotation.Target;

/** The sentences of the document, or parts of them, that a test is about: it fails if one of them is broken. */
@Retention(RetentionPolicy.RUNTIME)
@Target(ElementType.METHOD)
@interface Sentence {
    /** "Terms", "Terms 1" to "Terms 5", "Constants", "What it is" or "Promise 1" to "Promise 64". */
    String in();

    String[] says();
}
