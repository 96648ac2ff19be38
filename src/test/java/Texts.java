import java.io.IOException;
import java.io.UncheckedIOException;
import java.nio.file.DirectoryStream;
import java.nio.file.Files;
import java.nio.file.Path;
import java.util.ArrayList;
import java.util.Collections;
import java.util.List;

/** The files of this checkout, read from its root, where .ci/run starts each test. */
final class Texts {
    private Texts() {
    }

    static String of(Path file) {
        try {
            return Files.readString(file);
        } catch (IOException e) {
            throw new UncheckedIOException(e);
        }
    }

    /** The names of the files in a folder that end so, without the ending, in their order. */
    static List<String> namesIn(Path folder, String ending) {
        List<String> names = new ArrayList<>();
        try (DirectoryStream<Path> files = Files.newDirectoryStream(folder, "*" + ending)) {
            for (Path file : files) {
                String name = file.getFileName().toString();
                names.add(name.substring(0, name.length() - ending.length()));
            }
        } catch (IOException e) {
            throw new UncheckedIOException(e);
        }
        Collections.sort(names);
        return names;
    }
}
