import java.io.DataInputStream;
import java.io.IOException;
import java.io.InputStream;
import java.lang.reflect.Constructor;
import java.lang.reflect.Field;
import java.lang.reflect.Method;
import java.lang.reflect.Modifier;
import java.nio.file.Files;
import java.nio.file.Path;
import java.util.ArrayList;
import java.util.Arrays;
import java.util.List;
import java.util.TreeSet;
import java.util.regex.Matcher;
import java.util.regex.Pattern;

/** The rules of LANGUAGE.md that can be seen from outside: the face, the words, the library, the sizes. */
public final class LanguageTest {
    private static final Due DUE = new Due();
    private static final String FACE = "alike buys cheapest check cost count court days feed game has histories jobs keep kind law "
        + "loophole person plan rivals soonest tried tries undo";
    private static final List<String> LIBRARY = List.of("java/lang/Object.<init>", "java/lang/Integer.bitCount",
        "java/lang/Math.max", "java/lang/Math.min", "java/lang/System.arraycopy", "java/util/Arrays.fill");

    public static void main(String[] args) throws IOException {
        List<Class<?>> classes = new ArrayList<>(List.of(SecondTry.class));
        classes.addAll(Arrays.asList(SecondTry.class.getDeclaredClasses()));
        face();
        DUE.is("classes, twelve at most", classes.size() <= 12, true);
        for (Class<?> c : classes) {
            DUE.part(c.getSimpleName());
            members(c);
            library(c);
        }
        words(plain(Files.readString(Path.of("src/main/java/SecondTry.java"))));
        DUE.end("LanguageTest");
    }

    private static void face() {
        DUE.part("the face");
        TreeSet<String> names = new TreeSet<>();
        for (Method m : SecondTry.class.getDeclaredMethods()) {
            boolean isPublic = Modifier.isPublic(m.getModifiers());
            DUE.is(m + " is public or private", isPublic || Modifier.isPrivate(m.getModifiers()), true);
            if (isPublic) {
                DUE.is(m + " stands once", names.add(m.getName()), true);
            } else {
                DUE.is(m + " has a name of its own", FACE.matches(".*\\b" + m.getName() + "\\b.*"), false);
            }
        }
        DUE.is("public methods " + names, String.join(" ", names).equals(FACE), true);
        for (Field f : SecondTry.class.getDeclaredFields()) {
            DUE.is(f + " is private", Modifier.isPrivate(f.getModifiers()), !f.getName().equals("NONE"));
        }
        DUE.is("one constructor", SecondTry.class.getConstructors().length, 1);
        DUE.is("no other constructor", SecondTry.class.getDeclaredConstructors().length, 1);
        DUE.is("final", Modifier.isFinal(SecondTry.class.getModifiers()), true);
    }

    private static void members(Class<?> c) {
        int fields = 0;
        for (Field f : c.getDeclaredFields()) {
            boolean isStatic = Modifier.isStatic(f.getModifiers());
            fields += isStatic ? 0 : 1;
            DUE.is(f + ": a static one is final", !isStatic || Modifier.isFinal(f.getModifiers()), true);
        }
        DUE.is("fields, twenty at most", fields <= 20, true);
        for (Method m : c.getDeclaredMethods()) {
            DUE.is(m + ": seven parameters at most", m.getParameterCount() <= 7, true);
            DUE.is(m + " bears no name of the face", c != SecondTry.class && FACE.matches(".*\\b" + m.getName() + "\\b.*"), false);
        }
        for (Constructor<?> made : c.getDeclaredConstructors()) {
            DUE.is(made + ": seven parameters at most", made.getParameterCount() <= 7, true);
        }
        if (c != SecondTry.class) {
            DUE.is("static", Modifier.isStatic(c.getModifiers()), true);
            DUE.is("not public or protected", (c.getModifiers() & (Modifier.PUBLIC | Modifier.PROTECTED)) == 0, true);
        }
    }

    /** What a class calls outside this file, by its constant pool; none may be called dynamically. */
    private static void library(Class<?> c) throws IOException {
        try (InputStream in = c.getResourceAsStream("/" + c.getName() + ".class")) {
            DataInputStream data = new DataInputStream(in);
            data.readInt();
            data.readInt();
            int size = data.readUnsignedShort();
            String[] texts = new String[size];
            int[] firsts = new int[size];
            int[] seconds = new int[size];
            int[] tags = new int[size];
            for (int i = 1; i < size; i++) {
                int tag = data.readUnsignedByte();
                tags[i] = tag;
                if (tag == 1) {
                    texts[i] = data.readUTF();
                } else if (tag == 5 || tag == 6) {
                    data.readLong();
                    i++;
                } else if (tag == 15) {
                    data.readUnsignedByte();
                    data.readUnsignedShort();
                } else if (tag == 7 || tag == 8 || tag == 16 || tag == 19 || tag == 20) {
                    firsts[i] = data.readUnsignedShort();
                } else {
                    firsts[i] = data.readUnsignedShort();
                    seconds[i] = data.readUnsignedShort();
                }
            }
            for (int i = 1; i < size; i++) {
                DUE.is("dynamic call", tags[i] == 17 || tags[i] == 18, false);
                if (tags[i] == 10 || tags[i] == 11) {
                    String owner = texts[firsts[firsts[i]]];
                    String call = owner + "." + texts[firsts[seconds[i]]];
                    DUE.is(call + " is in the library", owner.startsWith("SecondTry") || LIBRARY.contains(call), true);
                }
            }
        }
    }

    /** The source without comments, texts and signs. */
    private static String plain(String source) {
        return source.replaceAll("(?s)/\\*.*?\\*/", "").replaceAll("//[^\n]*", "")
            .replaceAll("\"[^\"\n]*\"", "\"\"").replaceAll("'[^'\n]+'", "0");
    }

    private static void words(String source) {
        DUE.part("words");
        String[] barred = {"throw", "throws", "try", "catch", "finally", "synchronized", "assert", "package", "native", "volatile",
            "transient", "instanceof", "protected", "Object", "Random", "Thread", "String", "long", "double", "float", "var", "yield"};
        for (String word : barred) {
            DUE.is("the word " + word, Pattern.compile("\\b" + word + "\\b").matcher(source).find(), false);
        }
        DUE.is("->", source.contains("->"), false);
        DUE.is("::", source.contains("::"), false);
        DUE.is("while", Pattern.compile("\\bwhile\\b").matcher(source).find(), false);
        Matcher imports = Pattern.compile("import ([^;]*);").matcher(source);
        while (imports.find()) {
            DUE.is("import " + imports.group(1), imports.group(1).equals("java.util.Arrays"), true);
        }
        for (int at = 0; at < source.length(); at++) {
            DUE.is("signs 1 to 127", source.charAt(at) < 128, true);
        }
        made(source);
        lengths(source);
    }

    /** Objects and arrays are made where fields are set alone, so that no call makes any. */
    private static void made(String source) {
        for (String line : source.split("\n")) {
            if (line.contains("new ")) {
                DUE.is("made in a call: " + line.trim(), line.matches("\\s*(private )?(final )?\\w+(\\[\\])? \\w+ = new .*"), true);
            }
        }
    }

    private static void lengths(String source) {
        Matcher heads = Pattern.compile("(?m)^( +)(?:private |public |static |final )*[\\w\\[\\]]+ (\\w+)\\([^;{]*\\) \\{$").matcher(source);
        int found = 0;
        while (heads.find()) {
            int end = source.indexOf("\n" + heads.group(1) + "}", heads.end());
            long lines = source.substring(heads.start(), end).chars().filter(sign -> sign == '\n').count() + 2;
            DUE.is(heads.group(2) + " has " + lines + " lines, sixty at most", lines <= 60, true);
            found++;
        }
        DUE.is("methods were found", found > 80, true);
    }
}
