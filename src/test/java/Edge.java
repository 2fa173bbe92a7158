import java.lang.annotation.ElementType;
import java.lang.annotation.Retention;
import java.lang.annotation.RetentionPolicy;
import java.lang.annotation.Target;

/** A test of one boundary case, and the document's own words that name it. */
@Retention(RetentionPolicy.RUNTIME)
@Target(ElementType.METHOD)
@interface Edge {
  /** The sections 'What it is' and 'Terms', which have no number in the document. */
  int ABOUT = -1;
  int TERMS = 0;

  int promise();

  String says();
}
