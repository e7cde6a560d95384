import java.lang.annotation.ElementType;
import java.lang.annotation.Repeatable;
import java.lang.annotation.Retention;
import java.lang.annotation.RetentionPolicy;
import java.lang.annotation.Target;

/** Quotes the sentence of ../shared/DOC.md that a test stands for; promise 0 is what stands ahead of promise 1. */
@Retention(RetentionPolicy.RUNTIME)
@Target(ElementType.METHOD)
@Repeatable(Sentence.Several.class)
@interface Sentence {
    int promise();

    String text();

    @Retention(RetentionPolicy.RUNTIME)
    @Target(ElementType.METHOD)
    @interface Several {
        Sentence[] value();
    }
}
