import java.io.IOException;
import java.lang.management.ManagementFactory;
import java.lang.reflect.Array;
import java.lang.reflect.Field;
import java.lang.reflect.Method;
import java.lang.reflect.Modifier;
import java.nio.file.Files;
import java.nio.file.Path;
import java.util.ArrayList;
import java.util.Collections;
import java.util.IdentityHashMap;
import java.util.List;
import java.util.Set;
import java.util.TreeSet;
import java.util.regex.Matcher;
import java.util.regex.Pattern;

/** The rules of LANGUAGE.md that can be read off the class or its source, and the room it takes. */
public final class PatienceDeskLanguage {
    private static final String DEFAULT_SOURCE = "src/main/java/PatienceDesk.java";
    private static final String FACE = "auto() begin(int,int,int,int,int) card(int,int) carry(int,int,int) cell(int) "
            + "count(int) forge(int,int,int) form(int) house(int) lay(int,int,int) lets(int,int) make(int) move(int,int) "
            + "needs(int) plan(int,int) put(int,int,int) redo() solve(int) status() undo() why()";
    private static final int CALLS = 512, ROOM_OBJECTS = 600_000, ROOM_ELEMENTS = 7_300_000;
    private static int wrong = 0;

    private static void mustBe(boolean kept, String rule) {
        if (!kept) {
            wrong++;
            System.out.println("not kept: " + rule);
        }
    }

    public static void main(String[] args) throws IOException, ReflectiveOperationException {
        face();
        for (Class<?> inner : PatienceDesk.class.getDeclaredClasses()) {
            inside(inner);
        }
        mustBe(PatienceDesk.class.getDeclaredClasses().length < 12, "rule 11: at most twelve classes");
        source(Files.readString(Path.of(args.length > 0 ? args[0] : DEFAULT_SOURCE)));
        room();
        System.out.println(wrong == 0 ? "the rules that can be read off are kept" : wrong + " rules are not kept");
        if (wrong != 0) {
            System.exit(1);
        }
    }

    private static void face() {
        Class<?> desk = PatienceDesk.class;
        mustBe(Modifier.isFinal(desk.getModifiers()) && Modifier.isPublic(desk.getModifiers()), "rule 1: public and final");
        Set<String> methods = new TreeSet<>();
        Set<String> names = new TreeSet<>();
        for (Method m : desk.getDeclaredMethods()) {
            if (!Modifier.isPrivate(m.getModifiers())) {
                methods.add(m.getName() + List.of(m.getParameterTypes()).toString().replaceAll("[\\[\\] ]", ""));
                names.add(m.getName());
                mustBe(Modifier.isPublic(m.getModifiers()) && m.getReturnType() == int.class, "rule 1: " + m);
            }
        }
        StringBuilder told = new StringBuilder();
        for (String name : FACE.replace("(", " ").split("\\) ?")) {
            String[] parts = name.split(" ");
            told.append(parts[0]).append(parts.length > 1 ? parts[1] : "").append(' ');
        }
        mustBe(String.join(" ", methods).equals(told.toString().trim()), "rule 1: the face, but " + methods);
        for (Method m : desk.getDeclaredMethods()) {
            mustBe(!Modifier.isPrivate(m.getModifiers()) || !names.contains(m.getName()), "rule 1: private " + m.getName());
        }
        Set<String> open = new TreeSet<>();
        for (Field f : desk.getDeclaredFields()) {
            if (!Modifier.isPrivate(f.getModifiers())) {
                open.add(f.getName());
            }
        }
        mustBe(open.toString().equals("[BAD, NONE, STATE]"), "rule 1: the constants, but " + open);
        mustBe(PatienceDesk.NONE == -1 && PatienceDesk.BAD == -2 && PatienceDesk.STATE == -3, "the constants' values");
        members(desk);
    }

    private static void inside(Class<?> inner) {
        mustBe(Modifier.isStatic(inner.getModifiers()), "rule 2: static " + inner);
        for (Method m : inner.getDeclaredMethods()) {
            mustBe(!FACE.matches("(.* )?" + m.getName() + "\\(.*"), "rule 1: " + m.getName() + " in " + inner);
        }
        members(inner);
    }

    private static void members(Class<?> c) {
        int fields = 0;
        for (Field f : c.getDeclaredFields()) {
            boolean isStatic = Modifier.isStatic(f.getModifiers());
            mustBe(!isStatic || Modifier.isFinal(f.getModifiers()), "rule 5: final " + f);
            fields += isStatic ? 0 : 1;
        }
        mustBe(fields <= 20, "rule 11: twenty fields in " + c);
        for (Method m : c.getDeclaredMethods()) {
            mustBe(m.getParameterCount() <= 7, "rule 11: seven parameters in " + m);
            mustBe(!m.isSynthetic(), "rule 2: no lambda, no inner class: " + m);
        }
    }

    private static void source(String text) {
        String code = text.replaceAll("(?s)/\\*.*?\\*/", " ").replaceAll("//[^\n]*", " ");
        for (String word : List.of("throw", "throws", "try", "catch", "finally", "synchronized", "assert", "equals",
                "hashCode", "toString", "double", "float", "package", "protected")) {
            mustBe(!Pattern.compile("\\b" + word + "\\b").matcher(code).find(), "rule 6: the word " + word);
        }
        mustBe(!code.contains("->") && !code.contains("::"), "rule 2: no lambda, no method reference");
        Set<String> used = new TreeSet<>();
        Matcher calls = Pattern.compile("\\b(Arrays|Math|Integer|Long|System|Character|Object)\\.(\\w+)").matcher(code);
        while (calls.find()) {
            used.add(calls.group());
        }
        List<String> listed = List.of("Arrays.fill", "Math.max", "Math.min", "Math.floorMod", "Integer.bitCount", "System.arraycopy");
        mustBe(listed.containsAll(used), "rule 4: the library, but " + used);
        Matcher imports = Pattern.compile("import ([\\w.*]+);").matcher(code);
        while (imports.find()) {
            mustBe(imports.group(1).equals("java.util.Arrays"), "rule 4: import " + imports.group(1));
        }
        for (char c : text.toCharArray()) {
            mustBe(c < 127, "rule 3: plain characters");
        }
        mustBe(longestMethod(code) <= 60, "rule 11: sixty lines");
    }

    /** Methods of the class and of those inside it begin with a modifier and end at its depth. */
    private static int longestMethod(String code) {
        List<Integer> starts = new ArrayList<>();
        int longest = 0;
        String[] lines = code.split("\n");
        Pattern start = Pattern.compile("^( +)(public|private) .*\\(.*\\{$");
        for (int i = 0; i < lines.length; i++) {
            Matcher m = start.matcher(lines[i]);
            if (m.matches()) {
                starts.add(i);
                int end = i + 1;
                while (end < lines.length && !lines[end].equals(m.group(1) + "}")) {
                    end++;
                }
                longest = Math.max(longest, end - i);
            }
        }
        mustBe(starts.size() > 20, "methods were found in the source");
        return longest;
    }

    /** All calls of a run share one room, so rows are made with the object and no call makes any. */
    private static void room() throws ReflectiveOperationException {
        com.sun.management.ThreadMXBean threads =
                (com.sun.management.ThreadMXBean) ManagementFactory.getThreadMXBean();
        long id = Thread.currentThread().getId();
        dearCalls(new PatienceDesk(), 2);
        threads.getThreadAllocatedBytes(id);
        PatienceDesk desk = new PatienceDesk();
        long before = threads.getThreadAllocatedBytes(id);
        dearCalls(desk, 40);
        long bytes = threads.getThreadAllocatedBytes(id) - before;
        mustBe(bytes < 1_000, "rule 12: a new object's first 480 calls made " + bytes + " bytes");
        made(desk);
    }

    /** So small that as many objects as an object has calls would fit into one room. */
    private static void made(PatienceDesk desk) throws ReflectiveOperationException {
        Set<Object> objects = Collections.newSetFromMap(new IdentityHashMap<>());
        int elements = elementsOf(desk, objects);
        mustBe(objects.size() <= ROOM_OBJECTS / CALLS, "rule 12: an object makes " + objects.size() + " objects and arrays");
        mustBe(elements <= ROOM_ELEMENTS / CALLS, "rule 12: an object makes " + elements + " fields and elements");
    }

    private static int elementsOf(Object owner, Set<Object> met) throws ReflectiveOperationException {
        if (owner == null || !met.add(owner)) {
            return 0;
        }
        int elements = 0;
        if (owner.getClass().isArray()) {
            elements = Array.getLength(owner);
            for (int i = 0; owner instanceof Object[] parts && i < parts.length; i++) {
                elements += elementsOf(parts[i], met);
            }
            return elements;
        }
        for (Field f : owner.getClass().getDeclaredFields()) {
            if (!Modifier.isStatic(f.getModifiers())) {
                f.setAccessible(true);
                elements += 1 + (f.getType().isPrimitive() ? 0 : elementsOf(f.get(owner), met));
            }
        }
        return elements;
    }

    private static void dearCalls(PatienceDesk desk, int times) {
        for (int i = 0; i < times; i++) {
            desk.begin(4, 3, 4, 2, i % 5);
            desk.make(i);
            desk.solve(4000);
            desk.needs(4000);
            desk.put(i % 6, 3, 0);
            desk.put(i % 6, 4, 0);
            desk.forge(i % 6, 4, 100);
            desk.forge(i % 6, 5, 1);
            desk.plan(0, 0);
            desk.form(3);
            desk.count(6);
            desk.auto();
        }
    }
}
