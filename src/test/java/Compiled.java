import java.io.IOException;
import java.nio.file.Files;
import java.nio.file.Path;
import java.util.List;
import java.util.Map;
import javax.tools.ToolProvider;

/** A class told as a text, compiled against those of the project. */
final class Compiled {
    private Compiled() {
    }

    /** The bytes of the class, or null, if it does not compile (javac tells why). */
    static byte[] bytes(String name, String source) throws IOException {
        Path dir = Files.createTempDirectory("compiled");
        Path file = dir.resolve(name + ".java");
        Path made = dir.resolve(name + ".class");
        try {
            Files.writeString(file, source);
            int wrong = ToolProvider.getSystemJavaCompiler().run(null, null, null,
                "-cp", System.getProperty("java.class.path"), "-d", dir.toString(), file.toString());
            return wrong == 0 ? Files.readAllBytes(made) : null;
        } finally {
            for (Path path : List.of(file, made, dir)) Files.deleteIfExists(path);
        }
    }

    /** Gives some classes anew, each by its bytes, and all others as they are. */
    static ClassLoader loader(Map<String, byte[]> anew) {
        return new ClassLoader(Compiled.class.getClassLoader()) {
            @Override
            protected Class<?> loadClass(String name, boolean resolve) throws ClassNotFoundException {
                byte[] bytes = anew.get(name);
                if (bytes == null) return super.loadClass(name, resolve);
                Class<?> made = findLoadedClass(name);
                return made != null ? made : defineClass(name, bytes, 0, bytes.length);
            }
        };
    }
}
