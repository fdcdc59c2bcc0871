import java.lang.annotation.ElementType;
import java.lang.annotation.Retention;
import java.lang.annotation.RetentionPolicy;
import java.lang.annotation.Target;

/** The promise that a test is about, and the document's words which it holds the class to. */
@Retention(RetentionPolicy.RUNTIME)
@Target(ElementType.METHOD)
@interface Says {
    int promise();

    /** To the letter, from the promise's own section or from the document's Terms. */
    String words();
}
