import java.lang.annotation.Retention;
import java.lang.annotation.RetentionPolicy;

/** The words of the document that a test holds the class to, and the promise (0: the terms) they stand in. */
@Retention(RetentionPolicy.RUNTIME)
@interface Says {
    int promise();

    String words();
}
