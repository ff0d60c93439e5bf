import java.lang.annotation.Retention;
import java.lang.annotation.RetentionPolicy;

/** The sentence of the document (or the part of it) that a test looks at, and the heading that it stands under. */
@Retention(RetentionPolicy.RUNTIME)
@interface Says {
  String at();

  String words();
}
