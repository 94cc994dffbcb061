import java.lang.annotation.Retention;
import java.lang.annotation.RetentionPolicy;

/** The sentence of the document that a test is of, word for word, and the promise or chapter that it stands in. */
@Retention(RetentionPolicy.RUNTIME)
@interface Says {
    int promise() default 0;

    String value();
}
