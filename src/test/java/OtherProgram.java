import java.io.ByteArrayOutputStream;
import java.io.IOException;
import java.io.InputStream;
import java.io.OutputStream;
import java.io.Writer;
import java.lang.reflect.Method;
import java.net.URI;
import java.util.HashMap;
import java.util.List;
import java.util.Map;
import javax.tools.FileObject;
import javax.tools.ForwardingJavaFileManager;
import javax.tools.JavaCompiler;
import javax.tools.JavaFileManager;
import javax.tools.JavaFileObject;
import javax.tools.SimpleJavaFileObject;
import javax.tools.ToolProvider;

/** The program by another text than its file's; it is compiled in memory, and tests run on it. */
final class OtherProgram {

    private final Map<String, ByteArrayOutputStream> classes = new HashMap<>();
    private final boolean compiles;

    OtherProgram(String text) {
        JavaCompiler compiler = ToolProvider.getSystemJavaCompiler();
        JavaFileManager kept = new KeptClasses(compiler.getStandardFileManager(null, null, null));
        compiles = compiler.getTask(Writer.nullWriter(), kept, null, List.of("-proc:none", "-nowarn"), null,
                List.of(new Source(text))).call();
    }

    boolean compiles() {
        return compiles;
    }

    /** Whether the test of a sentence holds on this program. */
    boolean holds(String tests, String test) throws ReflectiveOperationException {
        Loader loader = new Loader();
        Method holds = loader.loadClass("Bounds").getDeclaredMethod("holds", Method.class);
        holds.setAccessible(true);
        return (Boolean) holds.invoke(null, loader.loadClass(tests).getDeclaredMethod(test));
    }

    private static final class Source extends SimpleJavaFileObject {

        private final String text;

        Source(String text) {
            super(URI.create("text:///NamePlate.java"), Kind.SOURCE);
            this.text = text;
        }

        @Override
        public CharSequence getCharContent(boolean ignoreEncodingErrors) {
            return text;
        }
    }

    private final class KeptClasses extends ForwardingJavaFileManager<JavaFileManager> {

        KeptClasses(JavaFileManager files) {
            super(files);
        }

        @Override
        public JavaFileObject getJavaFileForOutput(Location place, String name, JavaFileObject.Kind kind, FileObject from) {
            return new SimpleJavaFileObject(URI.create("kept:///" + name), kind) {
                @Override
                public OutputStream openOutputStream() {
                    return classes.computeIfAbsent(name, key -> new ByteArrayOutputStream());
                }
            };
        }
    }

    /** Loads this program, and all tests once more, so that they meet this program and no other one. */
    private final class Loader extends ClassLoader {

        Loader() {
            super(OtherProgram.class.getClassLoader());
        }

        @Override
        protected Class<?> loadClass(String name, boolean resolve) throws ClassNotFoundException {
            synchronized (getClassLoadingLock(name)) {
                Class<?> loaded = findLoadedClass(name);
                byte[] bytes = loaded == null ? bytesOf(name) : null;
                if (bytes != null) {
                    return defineClass(name, bytes, 0, bytes.length);
                }
                return loaded == null ? super.loadClass(name, resolve) : loaded;
            }
        }

        private byte[] bytesOf(String name) throws ClassNotFoundException {
            if (classes.containsKey(name)) {
                return classes.get(name).toByteArray();
            }
            if (name.indexOf('.') >= 0) {
                return null;
            }
            try (InputStream stream = getResourceAsStream(name + ".class")) {
                return stream == null ? null : stream.readAllBytes();
            } catch (IOException failure) {
                throw new ClassNotFoundException(name, failure);
            }
        }
    }
}
