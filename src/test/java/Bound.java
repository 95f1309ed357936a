import java.lang.annotation.ElementType;
import java.lang.annotation.Retention;
import java.lang.annotation.RetentionPolicy;
import java.lang.annotation.Target;

/** Marks the test of a sentence of ../shared/DOC.md. */
@Retention(RetentionPolicy.RUNTIME)
@Target(ElementType.METHOD)
@interface Bound {

    /** The promise that is not held if the sentence is broken. */
    int promise();

    /** The heading under which the sentence stands; that of the promise if it is empty. */
    String in() default "";

    /** The sentence, or as much of it as is tested, in the document's words, or several ones. */
    String[] says();
}
