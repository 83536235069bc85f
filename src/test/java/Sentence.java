import java.lang.annotation.ElementType;
import java.lang.annotation.Retention;
import java.lang.annotation.RetentionPolicy;
import java.lang.annotation.Target;

/** The sentence of ../shared/DOC.md that a boundary test stands for, word by word, so that it can be found there. */
@Retention(RetentionPolicy.RUNTIME)
@Target(ElementType.METHOD)
@interface Sentence {
    /** "Promise 2", "Terms 1" (the part behind "======== 1"), "Terms" (ahead of it), "The public face", "What it is". */
    String in();

    String says();
}
