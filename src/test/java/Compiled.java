import java.io.ByteArrayOutputStream;
import java.io.IOException;
import java.io.InputStream;
import java.io.OutputStream;
import java.net.URI;
import java.util.HashMap;
import java.util.List;
import java.util.Map;
import javax.tools.FileObject;
import javax.tools.ForwardingJavaFileManager;
import javax.tools.JavaCompiler;
import javax.tools.JavaFileManager;
import javax.tools.JavaFileObject;
import javax.tools.SimpleJavaFileObject;
import javax.tools.StandardJavaFileManager;
import javax.tools.ToolProvider;

/**
 * A class compiled from a text, with no file written. It loads the tests and RollCall once more beside it,
 * so that they meet the class of the text where it bears one of their names.
 */
final class Compiled extends ClassLoader {
    private final Map<String, byte[]> made;

    private Compiled(Map<String, byte[]> made) {
        super(Compiled.class.getClassLoader());
        this.made = made;
    }

    static Compiled of(String name, String source) throws IOException {
        JavaCompiler compiler = ToolProvider.getSystemJavaCompiler();
        try (StandardJavaFileManager standard = compiler.getStandardFileManager(null, null, null)) {
            Memory memory = new Memory(standard);
            List<String> options = List.of("-proc:none", "-implicit:none");
            List<Source> sources = List.of(new Source(name, source));
            boolean isDone = compiler.getTask(null, memory, null, options, null, sources).call();
            return new Compiled(isDone ? memory.classes() : Map.of());
        }
    }

    /** The compiler has said why. */
    boolean isRefused() {
        return made.isEmpty();
    }

    @Override
    protected Class<?> loadClass(String name, boolean resolve) throws ClassNotFoundException {
        Class<?> loaded = findLoadedClass(name);
        if (loaded != null) {
            return loaded;
        }
        if (name.contains(".")) {
            return super.loadClass(name, resolve);
        }
        byte[] bytes = made.containsKey(name) ? made.get(name) : read(name);
        return defineClass(name, bytes, 0, bytes.length);
    }

    private byte[] read(String name) throws ClassNotFoundException {
        try (InputStream in = getParent().getResourceAsStream(name + ".class")) {
            if (in == null) {
                throw new ClassNotFoundException(name);
            }
            return in.readAllBytes();
        } catch (IOException e) {
            throw new ClassNotFoundException(name, e);
        }
    }

    private static final class Source extends SimpleJavaFileObject {
        private final String text;

        Source(String name, String text) {
            super(URI.create("string:///" + name + ".java"), JavaFileObject.Kind.SOURCE);
            this.text = text;
        }

        @Override
        public CharSequence getCharContent(boolean ignoreEncodingErrors) {
            return text;
        }
    }

    private static final class Bytes extends SimpleJavaFileObject {
        private final ByteArrayOutputStream out = new ByteArrayOutputStream();

        Bytes(String name) {
            super(URI.create("bytes:///" + name + ".class"), JavaFileObject.Kind.CLASS);
        }

        @Override
        public OutputStream openOutputStream() {
            return out;
        }
    }

    /** Keeps what the compiler makes. */
    private static final class Memory extends ForwardingJavaFileManager<StandardJavaFileManager> {
        private final Map<String, Bytes> made = new HashMap<>();

        Memory(StandardJavaFileManager standard) {
            super(standard);
        }

        @Override
        public JavaFileObject getJavaFileForOutput(JavaFileManager.Location location, String name,
                JavaFileObject.Kind kind, FileObject sibling) {
            return made.computeIfAbsent(name, Bytes::new);
        }

        Map<String, byte[]> classes() {
            Map<String, byte[]> all = new HashMap<>();
            made.forEach((name, bytes) -> all.put(name, bytes.out.toByteArray()));
            return all;
        }
    }
}
