import java.lang.annotation.ElementType;
import java.lang.annotation.Retention;
import java.lang.annotation.RetentionPolicy;
import java.lang.annotation.Target;

/** Says which sentence of the document a test holds. QuoteTests looks each of them up in the document. */
@Retention(RetentionPolicy.RUNTIME)
@Target(ElementType.METHOD)
@interface Holds {
    /** The number of the promise, 0 for what stands ahead of the promises. */
    int promise();

    /** The document's own words from the section of that promise: a sentence, or the part of it that is tested. */
    String[] sentence();
}
