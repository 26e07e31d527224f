import java.util.function.Consumer;

/** Words of the document, the heading under which they stand, and the test that fails if they are broken. */
record Sentence(String heading, String words, Consumer<Check> test) {
}
