import java.lang.annotation.ElementType;
import java.lang.annotation.Retention;
import java.lang.annotation.RetentionPolicy;
import java.lang.annotation.Target;

/** A test for one sentence of the document: a static method that takes a Due. */
@Retention(RetentionPolicy.RUNTIME)
@Target(ElementType.METHOD)
@interface Sentence {
    /** The promise whose calls show whether the sentence holds. */
    int promise();

    /** The document's words, 'Terms: ' before those that are not the promise's own; behind a colon, the case at hand. */
    String says();
}
