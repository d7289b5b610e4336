import java.lang.management.ManagementFactory;
import java.lang.reflect.Array;
import java.lang.reflect.Constructor;
import java.lang.reflect.Field;
import java.lang.reflect.Member;
import java.lang.reflect.Method;
import java.lang.reflect.Modifier;
import java.nio.file.Files;
import java.nio.file.Path;
import java.util.ArrayDeque;
import java.util.ArrayList;
import java.util.Collections;
import java.util.Deque;
import java.util.IdentityHashMap;
import java.util.List;
import java.util.Random;
import java.util.Set;
import java.util.TreeSet;
import java.util.regex.Matcher;
import java.util.regex.Pattern;

/** The face of the document, and the rules of LANGUAGE.md and of the room that can be looked at here. */
final class LanguageTest {
    private static final Checks CHECKS = new Checks();
    private static final String SOURCE = "src/main/java/VolumeSets.java";

    public static void main(String[] args) throws Exception {
        face();
        classesInside();
        words();
        room();
        callsMakeNothing();
        anyArguments();
        CHECKS.finish();
    }

    private static boolean isSeen(Member member) {
        return !Modifier.isPrivate(member.getModifiers());
    }

    private static void face() {
        Set<String> want = new TreeSet<>(List.of("feed(5)", "end(1)", "entry(0)", "clear(0)", "rule(2)", "volumes(0)",
            "byteOf(2)", "write(1)", "lose(1)", "poke(3)", "swap(2)", "copy(2)", "slot(2)", "read(1)", "found(1)",
            "where(1)", "got(1)", "opened(2)", "count(1)", "BAD", "NONE", "FULL", "VolumeSets()"));
        Set<String> seen = new TreeSet<>();
        for (Method m : VolumeSets.class.getDeclaredMethods()) {
            if (isSeen(m)) {
                seen.add(m.getName() + "(" + m.getParameterCount() + ")");
                CHECKS.holds(m + " is public and not static, of int alone", Modifier.isPublic(m.getModifiers())
                    && !Modifier.isStatic(m.getModifiers()) && m.getReturnType() == int.class
                    && List.of(m.getParameterTypes()).stream().allMatch(t -> t == int.class));
            }
        }
        for (Field f : VolumeSets.class.getDeclaredFields()) {
            if (isSeen(f)) {
                seen.add(f.getName());
                CHECKS.due("modifiers of " + f, f.getModifiers(), Modifier.PUBLIC | Modifier.STATIC | Modifier.FINAL);
            }
        }
        for (Constructor<?> c : VolumeSets.class.getDeclaredConstructors()) {
            seen.add("VolumeSets(" + (c.getParameterCount() == 0 ? "" : c.getParameterCount()) + ")");
            CHECKS.holds("the constructor is public", Modifier.isPublic(c.getModifiers()));
        }
        CHECKS.holds("the face is " + want + ", seen is " + seen, want.equals(seen));
        CHECKS.due("modifiers of the class", VolumeSets.class.getModifiers(), Modifier.PUBLIC | Modifier.FINAL);
    }

    private static void classesInside() {
        List<Class<?>> all = new ArrayList<>(List.of(VolumeSets.class.getDeclaredClasses()));
        for (Class<?> c : all) {
            CHECKS.holds(c + " is static, and not public or protected", Modifier.isStatic(c.getModifiers())
                && (c.getModifiers() & (Modifier.PUBLIC | Modifier.PROTECTED)) == 0);
        }
        all.add(VolumeSets.class);
        CHECKS.holds("at most twelve classes, there are " + all.size(), all.size() <= 12);
        Set<String> faceNames = new TreeSet<>();
        for (Method m : VolumeSets.class.getDeclaredMethods()) {
            faceNames.add(m.getName());
        }
        for (Class<?> c : all) {
            int own = 0;
            for (Field f : c.getDeclaredFields()) {
                boolean isStatic = Modifier.isStatic(f.getModifiers());
                own += isStatic ? 0 : 1;
                CHECKS.holds(f + ": static fields are final", !isStatic || Modifier.isFinal(f.getModifiers()));
            }
            CHECKS.holds(c + ": at most twenty fields", own <= 20);
            for (Method m : c.getDeclaredMethods()) {
                CHECKS.holds(m + ": at most seven parameters", m.getParameterCount() <= 7);
                CHECKS.holds(m + ": not the name of a public one",
                    c == VolumeSets.class || !faceNames.contains(m.getName()));
            }
        }
    }

    private static void words() throws Exception {
        String code = Files.readString(Path.of(SOURCE)).replaceAll("(?s)/\\*.*?\\*/", "").replaceAll("//[^\n]*", "");
        for (String word : List.of("throw", "throws", "try", "catch", "finally", "synchronized", "assert", "package",
            "Object", "Random", "Thread", "System\\.(?!arraycopy)", "protected", "->", "::", "float", "double",
            "Exception", "\\w+Exact", "while \\(true\\)", "for \\(;;\\)", "equals", "hashCode", "toString")) {
            boolean plain = word.matches("\\w+");
            Matcher found = Pattern.compile(plain ? "\\b" + word + "\\b" : word).matcher(code);
            CHECKS.holds("no '" + word + "' in the program", !found.find());
        }
        Matcher imports = Pattern.compile("import ([^;]*);").matcher(code);
        while (imports.find()) {
            CHECKS.holds("import of " + imports.group(1), imports.group(1).equals("java.util.Arrays"));
        }
        int length = 0;
        for (String line : code.split("\n")) {
            boolean ends = line.equals("    }") || line.equals("        }");
            length = ends ? 0 : length + 1;
            boolean inMethod = line.startsWith("            ") || line.isBlank();
            CHECKS.holds("methods have at most sixty lines: " + line, !inMethod || length <= 60 || line.isBlank());
        }
    }

    /** Objects and arrays, then fields and elements, that an object holds. */
    private static int[] size(Object root) throws Exception {
        Set<Object> seen = Collections.newSetFromMap(new IdentityHashMap<>());
        Deque<Object> due = new ArrayDeque<>(List.of(root));
        seen.add(root);
        int parts = 0;
        while (!due.isEmpty()) {
            Object o = due.remove();
            List<Object> inside = new ArrayList<>();
            if (o.getClass().isArray()) {
                parts += Array.getLength(o);
                for (int i = 0; !o.getClass().getComponentType().isPrimitive() && i < Array.getLength(o); i++) {
                    inside.add(Array.get(o, i));
                }
            } else {
                for (Field f : o.getClass().getDeclaredFields()) {
                    if (!Modifier.isStatic(f.getModifiers())) {
                        parts++;
                        f.setAccessible(true);
                        if (!f.getType().isPrimitive()) {
                            inside.add(f.get(o));
                        }
                    }
                }
            }
            for (Object next : inside) {
                if (next != null && seen.add(next)) {
                    due.add(next);
                }
            }
        }
        return new int[] {seen.size(), parts};
    }

    /** Even a run that makes an object at each of 512 calls stays inside the room. */
    private static void room() throws Exception {
        int[] size = size(new VolumeSets());
        System.out.println("an object holds " + size[0] + " objects and arrays, " + size[1] + " fields and elements");
        CHECKS.holds("objects: " + size[0], size[0] * 512 < 600_000);
        CHECKS.holds("fields and elements: " + size[1], size[1] * 512 < 7_300_000);
    }

    /** All rows are made with the object: a run of calls makes nothing more. */
    private static void callsMakeNothing() {
        com.sun.management.ThreadMXBean bean = (com.sun.management.ThreadMXBean) ManagementFactory.getThreadMXBean();
        long id = Thread.currentThread().getId();
        long made = 0;
        for (int round = 0; round < 3; round++) {
            VolumeSets x = new VolumeSets();
            long before = bean.getThreadAllocatedBytes(id);
            dearCalls(x);
            made = bean.getThreadAllocatedBytes(id) - before;
        }
        CHECKS.holds("calls make no objects (" + made + " bytes)", made < 1000);
    }

    private static void dearCalls(VolumeSets x) {
        x.rule(1, 3);
        for (int k = 0; k < 20; k++) {
            x.feed(k, 2, 3, 4, 5);
            x.entry();
        }
        x.write(3);
        x.write(-1);
        x.lose(4);
        x.lose(6);
        x.lose(8);
        for (int k = 0; k < 50; k++) {
            x.read(0);
            x.byteOf(x.volumes() - 1, k);
            x.write(0);
            x.lose(59);
            x.found(k % 7);
            x.got(k);
            x.where(k);
            x.opened(k, 1);
            x.count(k % 10);
            x.slot(k, 0);
            x.copy(0, 58);
            x.swap(k, 58);
            x.poke(k, k, k);
            x.end(k);
        }
        x.clear();
    }

    /** No call throws, whatever comes. */
    private static void anyArguments() {
        int[] some = {Integer.MIN_VALUE, Integer.MIN_VALUE + 1, -100, -3, -2, -1, 0, 1, 2, 3, 5, 12, 19, 20, 59, 60, 61,
            79, 80, 81, 100, 255, 256, Integer.MAX_VALUE - 1, Integer.MAX_VALUE};
        Random random = new Random(1);
        String thrown = "";
        for (int run = 0; run < 500 && thrown.isEmpty(); run++) {
            VolumeSets x = new VolumeSets();
            try {
                for (int k = 0; k < 512; k++) {
                    int a = some[random.nextInt(some.length)];
                    int b = some[random.nextInt(some.length)];
                    int c = some[random.nextInt(some.length)];
                    oneCall(x, random.nextInt(22), a, b, c);
                }
            } catch (RuntimeException e) {
                thrown = "run " + run + ": " + e;
            }
        }
        CHECKS.holds("no call throws: " + thrown, thrown.isEmpty());
    }

    private static void oneCall(VolumeSets x, int which, int a, int b, int c) {
        switch (which) {
            case 0: x.feed(a, b, c, a, b); break;
            case 1: x.end(a); break;
            case 2: x.entry(); break;
            case 3: x.rule(a, b); break;
            case 4: x.volumes(); break;
            case 5: x.byteOf(a, b); break;
            case 6: x.write(a); break;
            case 7: x.lose(a); break;
            case 8: x.poke(a, b, c); break;
            case 9: x.swap(a, b); break;
            case 10: x.copy(a, b); break;
            case 11: x.slot(a, b); break;
            case 12: x.read(a); break;
            case 13: x.found(a); break;
            case 14: x.where(a); break;
            case 15: x.got(a); break;
            case 16: x.opened(a, b); break;
            case 17: x.count(a); break;
            case 18: x.read(0); break;
            case 19: x.write(-1); break;
            case 20: x.rule(1, 3); break;
            default: x.poke(0, b, c); break;
        }
    }
}
