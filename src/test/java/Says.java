import java.lang.annotation.ElementType;
import java.lang.annotation.Retention;
import java.lang.annotation.RetentionPolicy;
import java.lang.annotation.Target;

/** The words of the document that a test holds the program to. */
@Retention(RetentionPolicy.RUNTIME)
@Target(ElementType.METHOD)
@interface Says {
    /** The section "What it is" in place of a promise. */
    int WHAT_IT_IS = -1;
    /** The section "Terms" in place of a promise. */
    int TERMS = 0;

    int promise();

    String value();
}
