import java.lang.reflect.Constructor;
import java.lang.reflect.Field;
import java.lang.reflect.Method;
import java.lang.reflect.Modifier;
import java.nio.file.Files;
import java.nio.file.Path;
import java.util.ArrayList;
import java.util.List;
import java.util.Set;
import java.util.TreeSet;
import java.util.regex.Matcher;
import java.util.regex.Pattern;

/** The face of the document and the rules of LANGUAGE.md, as far as they can be seen without a parser. */
public final class LanguageTest {
    private static final Path SOURCE = Path.of("src/main/java/EndlessTug.java");
    private static final Path DOCUMENT = Path.of("../shared/DOC.md");
    private static int wrong;

    private static void must(boolean holds, String what) {
        if (!holds) {
            wrong++;
            System.out.println(what);
        }
    }

    public static void main(String[] args) throws Exception {
        String source = Files.readString(SOURCE);
        String code = withoutCommentsAndTexts(source);
        faceIsTheDocuments();
        nothingElseIsSeen();
        noForbiddenWord(code);
        onlyListedImports(code);
        onlyListedFunctions(code);
        methodsAreShort(source);
        System.out.println(wrong == 0 ? "the face and the rules hold" : wrong + " rules broken");
        if (wrong != 0) {
            System.exit(1);
        }
    }

    private static void faceIsTheDocuments() throws Exception {
        Set<String> due = new TreeSet<>();
        Matcher line = Pattern.compile("^    public (\\w+) (\\w+)\\((.*)\\);$", Pattern.MULTILINE).matcher(Files.readString(DOCUMENT));
        while (line.find()) {
            due.add(line.group(1) + " " + line.group(2) + "(" + line.group(3).replaceAll(" \\w+(,|$)", "$1") + ")");
        }
        Set<String> seen = new TreeSet<>();
        for (Method method : EndlessTug.class.getDeclaredMethods()) {
            if (!Modifier.isPrivate(method.getModifiers())) {
                List<String> types = new ArrayList<>();
                for (Class<?> type : method.getParameterTypes()) {
                    types.add(type.getSimpleName());
                }
                seen.add(method.getReturnType() + " " + method.getName() + "(" + String.join(", ", types) + ")");
                must(Modifier.isPublic(method.getModifiers()), "rule 1: " + method + " isn't public");
            }
        }
        must(due.size() == 37, "the document's face has " + due.size() + " methods");
        must(due.equals(seen), "the face is " + seen + ", due is " + due);
        for (Method method : EndlessTug.class.getDeclaredMethods()) {
            must(!Modifier.isPrivate(method.getModifiers()) || !isNamed(due, method), "rule 1: private " + method.getName());
        }
        for (Class<?> inside : EndlessTug.class.getDeclaredClasses()) {
            for (Method method : inside.getDeclaredMethods()) {
                must(!isNamed(due, method), "rule 1: " + method + " bears the name of a public one");
            }
        }
    }

    private static boolean isNamed(Set<String> face, Method method) {
        return face.stream().anyMatch(one -> one.contains(" " + method.getName() + "("));
    }

    private static void nothingElseIsSeen() {
        Class<?> face = EndlessTug.class;
        must(Modifier.isPublic(face.getModifiers()) && Modifier.isFinal(face.getModifiers()), "rule 1: public and final");
        Constructor<?>[] made = face.getDeclaredConstructors();
        must(made.length == 1 && Modifier.isPublic(made[0].getModifiers()), "rule 1: one public constructor");
        for (Field field : face.getDeclaredFields()) {
            must(Modifier.isPrivate(field.getModifiers()), "rule 1: " + field + " is seen");
            must(!Modifier.isStatic(field.getModifiers()) || Modifier.isFinal(field.getModifiers()), "rule 5: " + field);
        }
        must(face.getDeclaredClasses().length <= 11, "rule 11: more than twelve classes");
        for (Class<?> inside : face.getDeclaredClasses()) {
            int is = inside.getModifiers();
            must(Modifier.isStatic(is) && !Modifier.isPublic(is) && !Modifier.isProtected(is), "rule 2: " + inside);
            must(inside.getDeclaredFields().length <= 20, "rule 11: fields of " + inside);
            for (Field field : inside.getDeclaredFields()) {
                must(!Modifier.isStatic(field.getModifiers()) || Modifier.isFinal(field.getModifiers()), "rule 5: " + field);
            }
        }
    }

    private static String withoutCommentsAndTexts(String source) {
        return source.replaceAll("(?s)/\\*.*?\\*/", " ").replaceAll("//[^\n]*", " ").replaceAll("\"[^\"\n]*\"", "\"\"");
    }

    private static void noForbiddenWord(String code) {
        String[] words = {"throw", "throws", "try", "catch", "finally", "synchronized", "assert", "equals", "hashCode",
            "toString", "volatile", "transient", "native", "var"};
        for (String word : words) {
            must(!Pattern.compile("\\b" + word + "\\b").matcher(code).find(), "rule 6: " + word);
        }
        for (String sign : new String[] {"->", "::", "@", "Exact(", "System.out", "package "}) {
            must(!code.contains(sign), "rules 2, 4: " + sign);
        }
    }

    private static void onlyListedImports(String code) {
        Matcher line = Pattern.compile("import (.*);").matcher(code);
        while (line.find()) {
            must(Set.of("java.util.Arrays", "java.util.ArrayList", "java.util.List").contains(line.group(1)), "rule 4: " + line.group());
        }
    }

    private static void onlyListedFunctions(String code) {
        Set<String> listed = Set.of("Math.min", "Math.max", "Math.abs", "Integer.bitCount", "Arrays.fill", "System.arraycopy");
        Matcher use = Pattern.compile("(?<!java[.]util[.])\\b(Math|Integer|Long|Arrays|System|String|Character)[.]\\w+").matcher(code);
        while (use.find()) {
            must(listed.contains(use.group()), "rule 4: " + use.group());
        }
    }

    private static void methodsAreShort(String source) {
        String[] lines = source.split("\n");
        for (int start = 0; start < lines.length; start++) {
            Matcher head = Pattern.compile("^( {4}| {8})[a-zA-Z].*\\((.*)\\) \\{$").matcher(lines[start]);
            if (head.find()) {
                int end = start;
                while (end < lines.length - 1 && !lines[end].equals(head.group(1) + "}")) {
                    end++;
                }
                must(end - start < 60, "rule 11: a long method: " + lines[start].trim());
                must(head.group(2).split(",").length <= 7, "rule 11: many parameters: " + lines[start].trim());
            }
        }
    }
}
