import java.io.IOException;
import java.nio.charset.StandardCharsets;
import java.nio.file.Files;
import java.nio.file.Path;
import java.util.ArrayList;
import java.util.List;

/** The files that tests look into, found from the project's folder. */
final class Texts {
    private Texts() {
    }

    /** Nothing, if it can't be read: then what is looked for in it is not found, and that tells. */
    static String read(String path) {
        try {
            return Files.readString(Path.of(path), StandardCharsets.UTF_8);
        } catch (IOException e) {
            return "";
        }
    }

    static String document() {
        return read("../shared/DOC.md");
    }

    /** The document's lines from that of the class on that tell its public members. */
    static List<String> documentFace() {
        List<String> face = new ArrayList<>();
        for (String line : document().split("\n")) {
            if (line.strip().startsWith("public ")) {
                face.add(line.strip());
            }
        }
        return face;
    }

    static String inOneLine(String text) {
        return text.replaceAll("\\s+", " ");
    }
}
