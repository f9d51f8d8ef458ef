import java.nio.file.Path;

/** Where the files of the project and the document stand. */
final class Project {
    private Project() {
    }

    static Path file(String name) {
        return Path.of(System.getProperty("project.root")).resolve(name);
    }

    static Path main() {
        return file("src/main/java/TypedColumns.java");
    }

    static Path readme() {
        return file("README.md");
    }

    static Path document() {
        return file("../shared/DOC.md");
    }
}
