import java.lang.annotation.ElementType;
import java.lang.annotation.Retention;
import java.lang.annotation.RetentionPolicy;
import java.lang.annotation.Target;

/** A test of one boundary: the promise that it holds, and the document's own words for it. */
@Retention(RetentionPolicy.RUNTIME)
@Target(ElementType.METHOD)
@interface Edge {
    int promise();

    String says();
}
