import java.io.ByteArrayOutputStream;
import java.io.IOException;
import java.io.OutputStream;
import java.io.PrintWriter;
import java.lang.reflect.InvocationTargetException;
import java.net.URI;
import java.nio.file.Files;
import java.nio.file.Path;
import java.util.HashMap;
import java.util.List;
import java.util.Map;
import javax.tools.FileObject;
import javax.tools.ForwardingJavaFileManager;
import javax.tools.JavaCompiler;
import javax.tools.JavaFileManager;
import javax.tools.JavaFileObject;
import javax.tools.SimpleJavaFileObject;
import javax.tools.StandardJavaFileManager;
import javax.tools.ToolProvider;

/** A text of LateClaims, compiled, and the tests beside it: each text has classes of its own, so none meets another. */
final class Program extends ClassLoader {
    private final Path tests;
    private final Map<String, ByteArrayOutputStream> classes = new HashMap<>();

    private Program(Path tests) {
        super(ClassLoader.getPlatformClassLoader());
        this.tests = tests;
    }

    /** Null if it is no Java. */
    static Program of(String text, Path tests) throws IOException {
        JavaCompiler javac = ToolProvider.getSystemJavaCompiler();
        Program program = new Program(tests);
        try (StandardJavaFileManager files = javac.getStandardFileManager(null, null, null);
             JavaFileManager kept = program.new Kept(files)) {
            OutputStream silent = OutputStream.nullOutputStream();
            boolean isJava = javac.getTask(new PrintWriter(silent), kept, null, List.of("-proc:none"), null, List.of(new Text(text))).call();
            return isJava ? program : null;
        }
    }

    /** Whether a test ends as it does with exit code 0. */
    boolean passes(String test) throws ReflectiveOperationException {
        try {
            loadClass(test).getMethod("main", String[].class).invoke(null, (Object) new String[0]);
            return true;
        } catch (InvocationTargetException e) {
            return false;
        }
    }

    @Override
    protected Class<?> findClass(String name) throws ClassNotFoundException {
        try {
            ByteArrayOutputStream own = classes.get(name);
            byte[] code = own != null ? own.toByteArray() : Files.readAllBytes(tests.resolve(name + ".class"));
            return defineClass(name, code, 0, code.length);
        } catch (IOException e) {
            throw new ClassNotFoundException(name, e);
        }
    }

    private static final class Text extends SimpleJavaFileObject {
        private final String text;

        Text(String text) {
            super(URI.create("string:///LateClaims.java"), Kind.SOURCE);
            this.text = text;
        }

        @Override
        public CharSequence getCharContent(boolean ignoreEncodingErrors) {
            return text;
        }
    }

    private final class Kept extends ForwardingJavaFileManager<StandardJavaFileManager> {
        Kept(StandardJavaFileManager files) {
            super(files);
        }

        @Override
        public JavaFileObject getJavaFileForOutput(Location location, String name, JavaFileObject.Kind kind, FileObject sibling) {
            ByteArrayOutputStream code = new ByteArrayOutputStream();
            classes.put(name, code);
            return new SimpleJavaFileObject(URI.create("mem:///" + name + ".class"), kind) {
                @Override
                public OutputStream openOutputStream() {
                    return code;
                }
            };
        }
    }
}
