import java.lang.annotation.Retention;
import java.lang.annotation.RetentionPolicy;

/** The words of ../shared/DOC.md that a test holds, as they stand there. NotesTest looks for them in both. */
@Retention(RetentionPolicy.RUNTIME)
@interface Holds {
  String[] value();
}
