import java.lang.annotation.Retention;
import java.lang.annotation.RetentionPolicy;

/** Names the promises and the sentences of the document that a test holds. */
@Retention(RetentionPolicy.RUNTIME)
@interface Holds {
    /** The numbers of the promises through which the sentences show. */
    int[] promise();

    /** The sentences, or the parts of them, as they stand in the document. */
    String[] sentence();

    /** The part of the document in which they stand; where none is given, the section of the first promise. */
    String in() default "";
}
