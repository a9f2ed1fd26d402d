import java.io.IOException;
import java.lang.reflect.Method;
import java.nio.file.Files;
import java.nio.file.Path;
import java.util.ArrayList;
import java.util.List;
import java.util.stream.Stream;

/** Each test's sentence stands in the document or in the language's rules, and each part of the document has a test. */
public final class DocumentTest {
    private static final Path DOCUMENT = Path.of("../shared/DOC.md");
    private static final Path LANGUAGE = Path.of("../shared/LANGUAGE.md");
    private static final Path TESTS = Path.of("src/test/java");

    /** What asks for nothing by itself. */
    private static final String[] FREE = {
        "A tree of nodes that are moved, turned, sized, hidden and hung elsewhere, a camera, and the matrices by which what"
            + " hangs at the nodes is seen, with the order in which it is drawn.",
        "```java import java.util.NoSuchElementException;",
        "```text",
        "The constants:",
    };

    public static void main(String[] args) throws IOException, ReflectiveOperationException {
        if (Files.exists(DOCUMENT) && Files.exists(LANGUAGE)) {
            List<Section> document = sectionsOf(Files.readString(DOCUMENT));
            Section language = new Section("LANGUAGE.md", Files.readString(LANGUAGE));
            for (Class<?> tests : testClasses()) {
                sentencesStand(tests, document, language);
            }
            eachPartHasATest(document);
        } else {
            System.out.println("DocumentTest: the document is not here");
        }
        Check.finish("DocumentTest");
    }

    /** A part of the document under one heading, and which of its characters some test has in its sentence. */
    private static final class Section {
        final String title;
        final String text;
        final boolean[] told;

        Section(String title, String text) {
            this.title = title;
            this.text = evenly(text);
            this.told = new boolean[this.text.length()];
        }

        boolean isPromise() {
            return title.startsWith("Promise ");
        }

        boolean tell(String sentence) {
            boolean found = false;
            for (int at = text.indexOf(sentence); at >= 0; at = text.indexOf(sentence, at + 1)) {
                for (int k = 0; k < sentence.length(); k++) {
                    told[at + k] = true;
                }
                found = true;
            }
            return found;
        }

        List<String> untold() {
            List<String> parts = new ArrayList<>();
            StringBuilder part = new StringBuilder();
            for (int k = 0; k <= told.length; k++) {
                if (k < told.length && !told[k]) {
                    part.append(text.charAt(k));
                } else {
                    if (part.chars().anyMatch(Character::isLetterOrDigit)) {
                        parts.add(part.toString().strip());
                    }
                    part.setLength(0);
                }
            }
            return parts;
        }
    }

    private static String evenly(String text) {
        return text.replaceAll("\\s+", " ").strip();
    }

    private static List<Section> sectionsOf(String document) {
        List<Section> sections = new ArrayList<>();
        for (String part : document.split("(?m)^## ")) {
            String[] titleAndText = part.split("\n", 2);
            sections.add(new Section(titleAndText[0].strip(), titleAndText.length > 1 ? titleAndText[1] : ""));
        }
        return sections;
    }

    private static List<Class<?>> testClasses() throws IOException, ClassNotFoundException {
        List<Class<?>> found = new ArrayList<>();
        try (Stream<Path> files = Files.list(TESTS)) {
            for (Path file : files.sorted().toList()) {
                String name = file.getFileName().toString();
                if (name.endsWith("Test.java")) {
                    found.add(Class.forName(name.substring(0, name.length() - ".java".length())));
                }
            }
        }
        return found;
    }

    private static void sentencesStand(Class<?> tests, List<Section> document, Section language) {
        for (Method test : tests.getDeclaredMethods()) {
            Sentence sentence = test.getAnnotation(Sentence.class);
            if (sentence != null) {
                String words = evenly(sentence.value());
                boolean stands = tell(tests, words, document) || language.tell(words);
                Check.due(tests.getName() + "." + test.getName() + ": \"" + words + "\" stands", stands, true);
            }
        }
    }

    /** Several promises have the same words, so a promise's test speaks of its own promise, or of the terms. */
    private static boolean tell(Class<?> tests, String words, List<Section> document) {
        boolean found = false;
        for (Section section : document) {
            found |= isHome(section, tests) && section.tell(words);
        }
        for (Section section : document) {
            found |= !section.isPromise() && section.tell(words);
        }
        return found;
    }

    private static boolean isHome(Section section, Class<?> tests) {
        String name = tests.getName();
        return name.startsWith("Promise")
            && section.title.startsWith("Promise " + Integer.parseInt(name.substring(7, 9)) + ":");
    }

    private static void eachPartHasATest(List<Section> document) {
        Section face = document.stream().filter(section -> section.title.equals("The public face")).findFirst().get();
        for (Section section : document) {
            if (section.isPromise()) {
                String call = section.text.substring(1, section.text.indexOf('`', 1));
                Check.due(call + " stands in the face", face.text.contains(call + ";"), true);
                section.tell("`" + call + "`:");
            }
            for (String free : FREE) {
                section.tell(free);
            }
            for (String untold : section.title.equals("Not promised") ? List.<String>of() : section.untold()) {
                Check.due(section.title + ": \"" + untold + "\" has a test", false, true);
            }
        }
    }
}
