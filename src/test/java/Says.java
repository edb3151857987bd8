import java.lang.annotation.Retention;
import java.lang.annotation.RetentionPolicy;

/** The sentence of the document whose boundary the method tests; EdgesTest looks whether the document has it. */
@Retention(RetentionPolicy.RUNTIME)
@interface Says {
    /** "terms", "section 1" to "section 4", "promise 1" to "promise 24". */
    String where();

    String words();
}
