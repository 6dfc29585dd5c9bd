import com.sun.source.tree.CompilationUnitTree;
import com.sun.source.tree.IdentifierTree;
import com.sun.source.tree.MemberSelectTree;
import com.sun.source.tree.MethodInvocationTree;
import com.sun.source.tree.MethodTree;
import com.sun.source.tree.Tree;
import com.sun.source.tree.VariableTree;
import com.sun.source.util.JavacTask;
import com.sun.source.util.TreeScanner;
import java.io.IOException;
import java.nio.file.Path;
import java.util.Map;
import java.util.Set;
import java.util.TreeMap;
import java.util.TreeSet;
import javax.tools.JavaCompiler;
import javax.tools.StandardJavaFileManager;
import javax.tools.ToolProvider;

/** Rules 8 and 11 of LANGUAGE.md, as the file's methods call one another: how deep, and which of them call themselves. */
public final class RulesCallsTest {
    private static final Path FILE = Path.of("src/main/java/WaveRing.java");
    private static final int DEEP_MOST = 8;

    /** The methods by their names (two of one name count as one that does what both do), and whom each calls. */
    private static final class Calls extends TreeScanner<Void, String> {
        final Map<String, Set<String>> of = new TreeMap<>();
        final Map<String, MethodTree> methods = new TreeMap<>();

        @Override
        public Void visitMethod(MethodTree method, String outer) {
            String name = method.getName().toString();
            of.computeIfAbsent(name, any -> new TreeSet<>());
            methods.put(name, method);
            return super.visitMethod(method, name);
        }

        @Override
        public Void visitMethodInvocation(MethodInvocationTree call, String caller) {
            Tree called = call.getMethodSelect();
            if (caller != null && called instanceof IdentifierTree plain) {
                of.get(caller).add(plain.getName().toString());
            } else if (caller != null && called instanceof MemberSelectTree member) {
                of.get(caller).add(member.getIdentifier().toString());
            }
            return super.visitMethodInvocation(call, caller);
        }
    }

    public static void main(String[] args) throws IOException {
        Check check = new Check();
        Calls calls = new Calls();
        JavaCompiler compiler = ToolProvider.getSystemJavaCompiler();
        try (StandardJavaFileManager files = compiler.getStandardFileManager(null, null, null)) {
            JavacTask task = (JavacTask) compiler.getTask(null, files, null, null, null, files.getJavaFileObjects(FILE));
            for (CompilationUnitTree unit : task.parse()) {
                unit.accept(calls, null);
            }
        }
        check.due("the file's methods were found", calls.of.containsKey("tryNow") && calls.of.size() > 31, true);
        Map<String, Set<String>> reach = reach(calls.of);
        for (String method : calls.of.keySet()) {
            String deepest = deepest(method, calls.of, reach);
            int deep = deepest.split(" > ").length;
            check.due("calls deeper than eight: " + deepest, deep > DEEP_MOST, false);
            if (reach.get(method).contains(method)) {
                check.due("a depth is carried by " + method, carriesDepth(calls.methods.get(method)), true);
            }
        }
        check.finish();
    }

    /** Of each method all those that it calls, or that those call, and so on. */
    private static Map<String, Set<String>> reach(Map<String, Set<String>> calls) {
        Map<String, Set<String>> reach = new TreeMap<>();
        calls.forEach((method, called) -> reach.put(method, new TreeSet<>(called)));
        reach.values().forEach(called -> called.retainAll(calls.keySet()));
        for (String between : calls.keySet()) {
            for (Set<String> called : reach.values()) {
                if (called.contains(between)) {
                    called.addAll(reach.get(between));
                }
            }
        }
        return reach;
    }

    /** The longest row of calls that begins with a method; those that call one another count as one. */
    private static String deepest(String method, Map<String, Set<String>> calls, Map<String, Set<String>> reach) {
        String longest = "";
        for (String together : calls.keySet()) {
            if (!together.equals(method) && !areOne(method, together, reach)) {
                continue;
            }
            for (String called : calls.get(together)) {
                if (calls.containsKey(called) && !called.equals(method) && !areOne(method, called, reach)) {
                    String row = deepest(called, calls, reach);
                    longest = row.split(" > ").length > longest.split(" > ").length || longest.isEmpty() ? row : longest;
                }
            }
        }
        return longest.isEmpty() ? method : method + " > " + longest;
    }

    private static boolean areOne(String a, String b, Map<String, Set<String>> reach) {
        return reach.get(a).contains(b) && reach.get(b).contains(a);
    }

    private static boolean carriesDepth(MethodTree method) {
        for (VariableTree parameter : method.getParameters()) {
            if (parameter.getName().contentEquals("depth")) {
                return true;
            }
        }
        return false;
    }
}
