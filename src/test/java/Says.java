import java.lang.annotation.ElementType;
import java.lang.annotation.Retention;
import java.lang.annotation.RetentionPolicy;
import java.lang.annotation.Target;

/** On a test: the sentence of ../shared/DOC.md, or the part of one, that it holds the program to, word for word. */
@Retention(RetentionPolicy.RUNTIME)
@Target(ElementType.METHOD)
@interface Says {
    /** The heading that the sentence stands under, up to its colon. */
    String under();

    String words();
}
