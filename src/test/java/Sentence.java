import java.lang.annotation.ElementType;
import java.lang.annotation.Retention;
import java.lang.annotation.RetentionPolicy;
import java.lang.annotation.Target;

/** Which sentence of ../shared/DOC.md a test belongs to: the heading it stands under, and its words. */
@Retention(RetentionPolicy.RUNTIME)
@Target(ElementType.METHOD)
@interface Sentence {
    /** The heading up to its colon, such as "Terms" or "Promise 5". */
    String in();

    String says();
}
