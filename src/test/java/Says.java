import java.lang.annotation.ElementType;
import java.lang.annotation.Retention;
import java.lang.annotation.RetentionPolicy;
import java.lang.annotation.Target;

/** Marks the test of one sentence of the document that names a boundary case. */
@Retention(RetentionPolicy.RUNTIME)
@Target(ElementType.METHOD)
@interface Says {
    /** The promises under which the sentence stands; none for a sentence of the document's Terms. */
    int[] promise() default {};

    /** The sentence, as the document says it. */
    String value();
}
