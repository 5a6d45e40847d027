import java.lang.annotation.ElementType;
import java.lang.annotation.Repeatable;
import java.lang.annotation.Retention;
import java.lang.annotation.RetentionPolicy;
import java.lang.annotation.Target;

/** Marks a test with the words of ../shared/DOC.md that it tests, and with the heading under which they stand. */
@Retention(RetentionPolicy.RUNTIME)
@Target(ElementType.METHOD)
@Repeatable(Says.Several.class)
@interface Says {
    /** The heading, up to its colon: "Settling", "Promise 3". */
    String in();

    /** Passages of the document, each word for word, without backquotes. */
    String[] words();

    /** Holds the marks of a test that has several. */
    @Retention(RetentionPolicy.RUNTIME)
    @Target(ElementType.METHOD)
    @interface Several {
        Says[] value();
    }
}
