import java.lang.annotation.ElementType;
import java.lang.annotation.Retention;
import java.lang.annotation.RetentionPolicy;
import java.lang.annotation.Target;

/** What the document says, word for word or a part of the sentence, and a test of it holds that. */
@Retention(RetentionPolicy.RUNTIME)
@Target(ElementType.METHOD)
@interface Says {
    /** The section: "What it is", "Description", or the number of a promise. */
    String in();

    /** The sentences; several only where they say the same. */
    String[] value();
}
