import java.io.ByteArrayOutputStream;
import java.io.IOException;
import java.io.InputStream;
import java.io.OutputStream;
import java.net.URI;
import java.nio.file.Files;
import java.nio.file.Path;
import java.util.HashMap;
import java.util.List;
import java.util.Map;
import javax.tools.FileObject;
import javax.tools.ForwardingJavaFileManager;
import javax.tools.JavaCompiler;
import javax.tools.JavaFileManager;
import javax.tools.JavaFileObject;
import javax.tools.SimpleJavaFileObject;
import javax.tools.StandardJavaFileManager;
import javax.tools.ToolProvider;

/**
 * A test of the tests: each edge has changes of the class's text that break its sentence, and its own
 * run must fail on each class that is changed so. A change whose piece no longer stands once in
 * RollCall.java is to be written anew, beside its edge.
 */
public final class MutantsTest {
    private static final Due DUE = new Due("MutantsTest");

    private MutantsTest() {
    }

    public static void main(String[] args) throws Exception {
        String source = Files.readString(Path.of("src/main/java/RollCall.java"));
        List<Edge> edges = EdgesTest.edges();
        for (int i = 0; i < edges.size(); i++) {
            DUE.is(edges.get(i).name() + " has changes that break it", edges.get(i).hasChanges(), true);
            for (Edge.Change change : edges.get(i).changes()) {
                look(i, edges.get(i).name(), change, source);
            }
        }
        DUE.end();
    }

    private static void look(int index, String name, Edge.Change change, String source) throws Exception {
        int at = source.indexOf(change.piece);
        if (at < 0 || source.indexOf(change.piece, at + 1) >= 0) {
            DUE.fail(name + ": this piece does not stand once in the class: " + change.piece);
            return;
        }
        Map<String, byte[]> classes = compile(source.replace(change.piece, change.other));
        if (classes.isEmpty()) {
            DUE.fail(name + ": not compiled with: " + change.other);
            return;
        }
        Class<?> edges = new Loader(classes).loadClass("EdgesTest");
        int wrong = (Integer) edges.getMethod("wrongOf", int.class).invoke(null, index);
        DUE.is(name + " fails with: " + change.other, wrong > 0, true);
    }

    private static Map<String, byte[]> compile(String source) throws IOException {
        JavaCompiler compiler = ToolProvider.getSystemJavaCompiler();
        try (StandardJavaFileManager standard = compiler.getStandardFileManager(null, null, null)) {
            Memory memory = new Memory(standard);
            List<String> options = List.of("-proc:none", "-implicit:none");
            boolean isDone = compiler.getTask(null, memory, null, options, null, List.of(new Source(source))).call();
            return isDone ? memory.classes() : Map.of();
        }
    }

    private static final class Source extends SimpleJavaFileObject {
        private final String text;

        Source(String text) {
            super(URI.create("string:///RollCall.java"), JavaFileObject.Kind.SOURCE);
            this.text = text;
        }

        @Override
        public CharSequence getCharContent(boolean ignoreEncodingErrors) {
            return text;
        }
    }

    private static final class Bytes extends SimpleJavaFileObject {
        private final ByteArrayOutputStream out = new ByteArrayOutputStream();

        Bytes(String name) {
            super(URI.create("bytes:///" + name + ".class"), JavaFileObject.Kind.CLASS);
        }

        @Override
        public OutputStream openOutputStream() {
            return out;
        }
    }

    /** Keeps what the compiler makes, and writes no file. */
    private static final class Memory extends ForwardingJavaFileManager<StandardJavaFileManager> {
        private final Map<String, Bytes> made = new HashMap<>();

        Memory(StandardJavaFileManager standard) {
            super(standard);
        }

        @Override
        public JavaFileObject getJavaFileForOutput(JavaFileManager.Location location, String name,
                JavaFileObject.Kind kind, FileObject sibling) {
            return made.computeIfAbsent(name, Bytes::new);
        }

        Map<String, byte[]> classes() {
            Map<String, byte[]> all = new HashMap<>();
            made.forEach((name, bytes) -> all.put(name, bytes.out.toByteArray()));
            return all;
        }
    }

    /** Loads the changed class, and the tests once more, so that they meet the changed one. */
    private static final class Loader extends ClassLoader {
        private final Map<String, byte[]> changed;

        Loader(Map<String, byte[]> changed) {
            super(MutantsTest.class.getClassLoader());
            this.changed = changed;
        }

        @Override
        protected Class<?> loadClass(String name, boolean resolve) throws ClassNotFoundException {
            Class<?> loaded = findLoadedClass(name);
            if (loaded != null) {
                return loaded;
            }
            if (name.contains(".")) {
                return super.loadClass(name, resolve);
            }
            byte[] bytes = changed.containsKey(name) ? changed.get(name) : read(name);
            return defineClass(name, bytes, 0, bytes.length);
        }

        private byte[] read(String name) throws ClassNotFoundException {
            try (InputStream in = getParent().getResourceAsStream(name + ".class")) {
                if (in == null) {
                    throw new ClassNotFoundException(name);
                }
                return in.readAllBytes();
            } catch (IOException e) {
                throw new ClassNotFoundException(name, e);
            }
        }
    }
}
