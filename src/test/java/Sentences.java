/**
 * Tests that bear a sentence of the document as their name, under the heading where it stands:
 * one that does not stand there is wrong, so that each sentence can be found from its test.
 */
final class Sentences {
    private final String heading;
    private final String section;

    private Sentences(String heading, String section) {
        this.heading = heading;
        this.section = section;
    }

    static Sentences under(String heading) {
        String document = "\n" + Texts.document();
        int start = document.indexOf("\n## " + heading + "\n");
        int next = document.indexOf("\n## ", start + 1);
        String section = document.substring(Math.max(start, 0),
                next < 0 ? document.length() : next);
        return new Sentences(heading, start < 0 ? "" : Texts.inOneLine(section));
    }

    void test(String sentence, Runnable test) {
        String name = heading + ": " + sentence;
        int made = Checks.made();
        int wrong = Checks.wrong();
        test.run();
        Checks.compare(name + " | found in the document",
                String.valueOf(section.contains(sentence)), "true");
        // The look into the document alone is no test.
        Checks.compare(name + " | has checks", String.valueOf(Checks.made() > made + 1), "true");
        String word = Checks.wrong() == wrong ? "ok     " : "WRONG  ";
        System.out.println(word + name + " (" + (Checks.made() - made) + " checks)");
    }
}
