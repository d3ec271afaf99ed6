import java.lang.annotation.Retention;
import java.lang.annotation.RetentionPolicy;

/** The sentence of the document that a test is for, and the heading under which it stands there. */
@Retention(RetentionPolicy.RUNTIME)
@interface Says {
    String in();

    String that();
}
