import com.sun.source.tree.AssertTree;
import com.sun.source.tree.BinaryTree;
import com.sun.source.tree.CatchTree;
import com.sun.source.tree.ClassTree;
import com.sun.source.tree.CompilationUnitTree;
import com.sun.source.tree.DoWhileLoopTree;
import com.sun.source.tree.ExpressionTree;
import com.sun.source.tree.ForLoopTree;
import com.sun.source.tree.ImportTree;
import com.sun.source.tree.LambdaExpressionTree;
import com.sun.source.tree.LiteralTree;
import com.sun.source.tree.MemberReferenceTree;
import com.sun.source.tree.MethodInvocationTree;
import com.sun.source.tree.MethodTree;
import com.sun.source.tree.NewArrayTree;
import com.sun.source.tree.NewClassTree;
import com.sun.source.tree.SynchronizedTree;
import com.sun.source.tree.ThrowTree;
import com.sun.source.tree.Tree;
import com.sun.source.tree.TryTree;
import com.sun.source.tree.VariableTree;
import com.sun.source.tree.WhileLoopTree;
import com.sun.source.util.JavacTask;
import com.sun.source.util.SourcePositions;
import com.sun.source.util.TreePath;
import com.sun.source.util.TreePathScanner;
import com.sun.source.util.Trees;
import java.io.IOException;
import java.lang.reflect.Array;
import java.lang.reflect.Field;
import java.nio.file.Path;
import java.util.ArrayDeque;
import java.util.Collection;
import java.util.Collections;
import java.util.IdentityHashMap;
import java.util.List;
import java.util.Map;
import java.util.Set;
import java.util.TreeMap;
import java.util.TreeSet;
import javax.lang.model.element.Element;
import javax.lang.model.element.ElementKind;
import javax.lang.model.element.ExecutableElement;
import javax.lang.model.element.Modifier;
import javax.lang.model.element.VariableElement;
import javax.lang.model.type.TypeKind;
import javax.lang.model.type.TypeMirror;
import javax.tools.JavaCompiler;
import javax.tools.StandardJavaFileManager;
import javax.tools.ToolProvider;

/**
 * The rules of ../shared/LANGUAGE.md that can be read off the class's own text, by javac's trees, and the room
 * that an object takes. What a rule leaves to judgement ("some sixty lines") is taken with a little to spare.
 */
public final class LanguageTest {
    private static final Path SOURCE = Path.of("src/main/java/MolesLawn.java");
    private static final Set<String> EXCEPTIONS = Set.of("IllegalStateException", "IllegalArgumentException",
            "IndexOutOfBoundsException", "ArithmeticException", "UnsupportedOperationException",
            "NoSuchElementException", "RuntimeException");
    private static final Set<String> CONSTANTS = Set.of("int", "long", "boolean", "char", "java.lang.String");
    private static final Set<String> CONSTANT_ROWS = Set.of("int[]", "long[]", "char[]", "byte[]");
    private static final Set<String> IMPORTS = Set.of("java.util.ArrayList", "java.util.List", "java.util.Arrays",
            "java.util.Iterator", "java.util.NoSuchElementException");
    private static final Set<String> LIBRARY_TYPES = Set.of("java.lang.String", "java.lang.StringBuilder",
            "java.lang.Integer", "java.util.ArrayList", "java.util.List", "java.util.Iterator",
            "java.lang.Iterable", "java.lang.Comparable");
    private static final Map<String, Set<String>> LIBRARY = Map.of(
            "java.lang.String", Set.of("length", "charAt", "isEmpty", "equals", "indexOf", "substring", "toCharArray"),
            "java.lang.StringBuilder", Set.of("append", "charAt", "setCharAt", "setLength", "deleteCharAt", "reverse",
                    "length", "toString"),
            "java.util.ArrayList", Set.of("add", "get", "set", "remove", "size", "isEmpty", "clear"),
            "java.util.List", Set.of("add", "get", "set", "remove", "size", "isEmpty", "clear", "of"),
            "java.util.Iterator", Set.of("hasNext", "next"),
            "java.lang.Iterable", Set.of("iterator"),
            "java.lang.Comparable", Set.of("compareTo"),
            "java.lang.System", Set.of("arraycopy"),
            "java.util.Arrays", Set.of("copyOf", "copyOfRange", "fill"),
            "Array", Set.of("clone"));
    private static final Set<String> OF_NUMBERS = Set.of("java.lang.Integer", "java.lang.Long", "java.lang.Math");

    private static int wrong = 0;

    private static void check(int rule, String what, boolean right) {
        if (!right) {
            wrong++;
            System.out.println("rule " + rule + ": " + what);
        }
    }

    // ---- the text of the class

    private static final class Reader extends TreePathScanner<Void, Void> {
        private final Trees trees;
        private final SourcePositions positions;
        private final CompilationUnitTree unit;
        private final Map<String, Set<String>> calls = new TreeMap<>();
        private final Set<String> publicNames = new TreeSet<>();
        private final Set<String> privateNames = new TreeSet<>();
        private int classes = 0;
        private MethodTree method;

        Reader(Trees itsTrees, CompilationUnitTree itsUnit) {
            trees = itsTrees;
            positions = itsTrees.getSourcePositions();
            unit = itsUnit;
        }

        private long line(long position) {
            return unit.getLineMap().getLineNumber(position);
        }

        private void ask(int rule, Tree tree, String what, boolean right) {
            if (!right) {
                check(rule, "line " + line(positions.getStartPosition(unit, tree)) + ": " + what, false);
            }
        }

        private Element element(Tree tree) {
            return trees.getElement(new TreePath(getCurrentPath(), tree));
        }

        private TypeMirror type(Tree tree) {
            return trees.getTypeMirror(new TreePath(getCurrentPath(), tree));
        }

        private static boolean isOwn(String name) {
            return name.equals("MolesLawn") || name.startsWith("MolesLawn.");
        }

        private static boolean isNumber(String name) {
            return Set.of("int", "long", "short", "byte", "char", "double", "float").contains(name);
        }

        private static boolean isAllowed(TypeMirror type) {
            if (type.getKind() == TypeKind.TYPEVAR) {
                return true;
            }
            String name = type.toString().replaceFirst("<.*>", "");
            if (name.endsWith("[][]")) {
                return isNumber(name.substring(0, name.length() - 4));
            }
            String part = name.endsWith("[]") ? name.substring(0, name.length() - 2) : name;
            return isNumber(part) || part.equals("boolean") || isOwn(part)
                    || part.equals(name) && (name.equals("void") || LIBRARY_TYPES.contains(name));
        }

        @Override
        public Void visitCompilationUnit(CompilationUnitTree tree, Void nothing) {
            check(0, "no package line", tree.getPackageName() == null);
            check(0, "one class in the file", tree.getTypeDecls().size() == 1);
            for (ImportTree line : tree.getImports()) {
                ask(4, line, "the import of " + line.getQualifiedIdentifier(),
                        IMPORTS.contains(line.getQualifiedIdentifier().toString()));
            }
            return super.visitCompilationUnit(tree, nothing);
        }

        @Override
        public Void visitClass(ClassTree tree, Void nothing) {
            classes++;
            Set<Modifier> modifiers = tree.getModifiers().getFlags();
            boolean outer = getCurrentPath().getParentPath().getLeaf() instanceof CompilationUnitTree;
            if (outer) {
                ask(1, tree, "public and final",
                        modifiers.contains(Modifier.PUBLIC) && modifiers.contains(Modifier.FINAL));
            } else {
                ask(1, tree, "a class inside is not public", !modifiers.contains(Modifier.PUBLIC)
                        && !modifiers.contains(Modifier.PROTECTED));
            }
            int fields = 0;
            for (Tree member : tree.getMembers()) {
                ask(5, member, "no static block", member.getKind() != Tree.Kind.BLOCK);
                if (member instanceof VariableTree) {
                    boolean constant = ((VariableTree) member).getModifiers().getFlags().contains(Modifier.STATIC);
                    fields += constant ? 0 : 1;
                }
            }
            ask(11, tree, fields + " fields", fields <= 22);
            return super.visitClass(tree, nothing);
        }

        @Override
        public Void visitMethod(MethodTree tree, Void nothing) {
            Set<Modifier> modifiers = tree.getModifiers().getFlags();
            boolean ofOuter = ((ClassTree) getCurrentPath().getParentPath().getLeaf()).getSimpleName()
                    .contentEquals("MolesLawn");
            if (ofOuter && modifiers.contains(Modifier.PUBLIC)) {
                publicNames.add(tree.getName().toString());
            } else if (modifiers.contains(Modifier.PRIVATE)) {
                privateNames.add(tree.getName().toString());
            } else {
                ask(1, tree, "private in the outer class", !ofOuter);
            }
            ask(6, tree, "not synchronized", !modifiers.contains(Modifier.SYNCHRONIZED));
            ask(7, tree, "not native", !modifiers.contains(Modifier.NATIVE));
            ask(11, tree, tree.getParameters().size() + " parameters", tree.getParameters().size() <= 7);
            long lines = line(positions.getEndPosition(unit, tree))
                    - line(positions.getStartPosition(unit, tree)) + 1;
            ask(11, tree, lines + " lines", lines <= 65);
            if (tree.getReturnType() != null) {
                TypeMirror type = type(tree.getReturnType());
                ask(3, tree, "the type " + type, isAllowed(type));
            }
            method = tree;
            calls.putIfAbsent(name(trees.getElement(getCurrentPath())), new TreeSet<>());
            super.visitMethod(tree, nothing);
            method = null;
            return nothing;
        }

        private static String name(Element method) {
            return method.getEnclosingElement() + "." + method;
        }

        @Override
        public Void visitVariable(VariableTree tree, Void nothing) {
            Element element = trees.getElement(getCurrentPath());
            String name = element.asType().toString();
            Set<Modifier> modifiers = tree.getModifiers().getFlags();
            if (element.getKind() == ElementKind.FIELD && modifiers.contains(Modifier.STATIC)) {
                boolean constant = CONSTANTS.contains(name) && ((VariableElement) element).getConstantValue() != null;
                boolean row = CONSTANT_ROWS.contains(name) && tree.getInitializer() instanceof NewArrayTree
                        && ((NewArrayTree) tree.getInitializer()).getInitializers() != null;
                boolean values = tree.getInitializer() != null
                        && tree.getInitializer().toString().endsWith("values()");
                ask(5, tree, "a static field is a final constant",
                        modifiers.contains(Modifier.FINAL) && (constant || row || values));
            } else if (element.getKind() != ElementKind.EXCEPTION_PARAMETER
                    && element.getKind() != ElementKind.ENUM_CONSTANT) {
                ask(3, tree, "the type " + name, isAllowed(element.asType()));
            }
            return super.visitVariable(tree, nothing);
        }

        @Override
        public Void visitMethodInvocation(MethodInvocationTree tree, Void nothing) {
            Element called = element(tree.getMethodSelect());
            String owner = called.getEnclosingElement().toString().replaceFirst("<.*>", "");
            String name = called.getSimpleName().toString();
            if (isOwn(owner) && method != null) {
                note(called);
            } else if (!isOwn(owner) && called.getKind() != ElementKind.CONSTRUCTOR) {
                ask(4, tree, "the library's " + owner + "." + name,
                        OF_NUMBERS.contains(owner) ? isOfNumbers((ExecutableElement) called)
                                : LIBRARY.getOrDefault(owner, Set.of()).contains(name));
            }
            return super.visitMethodInvocation(tree, nothing);
        }

        // Over int and long alone, and none whose name ends in Exact.
        private static boolean isOfNumbers(ExecutableElement called) {
            boolean whole = !called.getSimpleName().toString().endsWith("Exact");
            for (VariableElement parameter : called.getParameters()) {
                whole &= Set.of("int", "long").contains(parameter.asType().toString());
            }
            return whole && called.getModifiers().contains(Modifier.STATIC);
        }

        private void note(Element called) {
            TreePath path = getCurrentPath();
            while (path.getLeaf() != method) {
                path = path.getParentPath();
            }
            calls.computeIfAbsent(name(trees.getElement(path)), key -> new TreeSet<>()).add(name(called));
        }

        private boolean inConstructor() {
            return method != null && method.getReturnType() == null;
        }

        @Override
        public Void visitNewClass(NewClassTree tree, Void nothing) {
            boolean thrown = getCurrentPath().getParentPath().getLeaf() instanceof ThrowTree;
            if (!thrown) {
                String name = type(tree).toString().replaceFirst("<.*>", "");
                ask(4, tree, "new " + name, isOwn(name) || tree.getClassBody() != null
                        || LIBRARY_TYPES.contains(name) && !name.equals("java.lang.Integer"));
                if (isOwn(name) && method != null) {
                    note(trees.getElement(getCurrentPath()));
                }
            }
            return super.visitNewClass(tree, nothing);
        }

        @Override
        public Void visitThrow(ThrowTree tree, Void nothing) {
            ask(6, tree, "no throw in a constructor", !inConstructor());
            boolean made = tree.getExpression() instanceof NewClassTree;
            ask(6, tree, "throw new", made);
            if (made) {
                NewClassTree exception = (NewClassTree) tree.getExpression();
                ask(6, tree, "an exception of the list",
                        EXCEPTIONS.contains(exception.getIdentifier().toString()));
                List<? extends ExpressionTree> arguments = exception.getArguments();
                ask(6, tree, "a written text", arguments.isEmpty()
                        || arguments.size() == 1 && arguments.get(0).getKind() == Tree.Kind.STRING_LITERAL);
            }
            return super.visitThrow(tree, nothing);
        }

        @Override
        public Void visitLiteral(LiteralTree tree, Void nothing) {
            if (tree.getValue() instanceof String) {
                ask(4, tree, "the signs of a text", ((String) tree.getValue()).chars().allMatch(c -> c > 0 && c < 128));
            }
            return super.visitLiteral(tree, nothing);
        }

        @Override
        public Void visitBinary(BinaryTree tree, Void nothing) {
            String left = type(tree.getLeftOperand()).toString();
            String right = type(tree.getRightOperand()).toString();
            ask(10, tree, "texts are not joined by +", tree.getKind() != Tree.Kind.PLUS
                    || !left.equals("java.lang.String") && !right.equals("java.lang.String"));
            boolean compared = tree.getKind() == Tree.Kind.EQUAL_TO || tree.getKind() == Tree.Kind.NOT_EQUAL_TO;
            ask(6, tree, "texts are not compared by ==", !compared || !left.equals(right)
                    || !left.equals("java.lang.String") && !left.equals("java.lang.Integer"));
            if (tree.getKind() == Tree.Kind.DIVIDE || tree.getKind() == Tree.Kind.REMAINDER) {
                ask(7, tree, "a divisor that is 0", !isZero(tree.getRightOperand()));
            }
            return super.visitBinary(tree, nothing);
        }

        private boolean isZero(ExpressionTree tree) {
            Object value = null;
            if (tree instanceof LiteralTree) {
                value = ((LiteralTree) tree).getValue();
            } else if (element(tree) instanceof VariableElement) {
                value = ((VariableElement) element(tree)).getConstantValue();
            }
            return value instanceof Number && ((Number) value).doubleValue() == 0;
        }

        private void askEnd(Tree loop, ExpressionTree condition) {
            ask(9, loop, "a loop with an end", condition != null
                    && !condition.toString().replaceAll("[() ]", "").equals("true"));
        }

        @Override
        public Void visitForLoop(ForLoopTree tree, Void nothing) {
            askEnd(tree, tree.getCondition());
            return super.visitForLoop(tree, nothing);
        }

        @Override
        public Void visitWhileLoop(WhileLoopTree tree, Void nothing) {
            askEnd(tree, tree.getCondition());
            return super.visitWhileLoop(tree, nothing);
        }

        @Override
        public Void visitDoWhileLoop(DoWhileLoopTree tree, Void nothing) {
            askEnd(tree, tree.getCondition());
            return super.visitDoWhileLoop(tree, nothing);
        }

        @Override
        public Void visitTry(TryTree tree, Void nothing) {
            ask(6, tree, "no finally", tree.getFinallyBlock() == null);
            ask(6, tree, "no try with resources", tree.getResources().isEmpty());
            ask(6, tree, "no try beside a throw", method == null || !method.toString().contains("throw new "));
            return super.visitTry(tree, nothing);
        }

        @Override
        public Void visitCatch(CatchTree tree, Void nothing) {
            String name = tree.getParameter().getType().toString();
            ask(6, tree, "the catch of " + name, EXCEPTIONS.contains(name));
            return super.visitCatch(tree, nothing);
        }

        @Override
        public Void visitLambdaExpression(LambdaExpressionTree tree, Void nothing) {
            ask(2, tree, "no lambda", false);
            return super.visitLambdaExpression(tree, nothing);
        }

        @Override
        public Void visitMemberReference(MemberReferenceTree tree, Void nothing) {
            ask(2, tree, "no method reference", false);
            return super.visitMemberReference(tree, nothing);
        }

        @Override
        public Void visitSynchronized(SynchronizedTree tree, Void nothing) {
            ask(6, tree, "no synchronized", false);
            return super.visitSynchronized(tree, nothing);
        }

        @Override
        public Void visitAssert(AssertTree tree, Void nothing) {
            ask(6, tree, "no assert", false);
            return super.visitAssert(tree, nothing);
        }

        void askTheWhole() {
            check(11, classes + " classes", classes <= 14);
            Set<String> both = new TreeSet<>(publicNames);
            both.retainAll(privateNames);
            both.remove("<init>");
            check(1, "public names on private methods: " + both, both.isEmpty());
            String deepest = "";
            for (String start : calls.keySet()) {
                String chain = chainFrom(start, new ArrayDeque<>());
                deepest = depth(chain) > depth(deepest) ? chain : deepest;
            }
            check(11, "calls go " + depth(deepest) + " deep: " + deepest, depth(deepest) <= 8);
        }

        private static int depth(String chain) {
            return chain.isEmpty() ? 0 : chain.split(" > ").length;
        }

        // The longest chain of calls; a call back into the chain is recursion, which does not count.
        private String chainFrom(String start, ArrayDeque<String> open) {
            String longest = "";
            open.push(start);
            for (String next : calls.getOrDefault(start, Set.of())) {
                String chain = open.contains(next) ? "" : chainFrom(next, open);
                longest = depth(chain) > depth(longest) ? chain : longest;
            }
            open.pop();
            return longest.isEmpty() ? start : start + " > " + longest;
        }
    }

    private static void readSource() throws IOException {
        JavaCompiler compiler = ToolProvider.getSystemJavaCompiler();
        try (StandardJavaFileManager files = compiler.getStandardFileManager(null, null, null)) {
            JavacTask task = (JavacTask) compiler.getTask(null, files, null, List.of("-proc:none"), null,
                    files.getJavaFileObjects(SOURCE));
            CompilationUnitTree unit = task.parse().iterator().next();
            task.analyze();
            Reader reader = new Reader(Trees.instance(task), unit);
            reader.scan(unit, null);
            reader.askTheWhole();
        }
    }

    // ---- the room

    /** All objects that an object holds, itself among them, and how many fields and elements they have. */
    private static final class Room {
        final Set<Object> objects = Collections.newSetFromMap(new IdentityHashMap<>());
        long elements = 0;

        Room(Object start) throws IllegalAccessException {
            ArrayDeque<Object> open = new ArrayDeque<>();
            open.add(start);
            while (!open.isEmpty()) {
                Object next = open.poll();
                if (objects.add(next)) {
                    look(next, open);
                }
            }
        }

        private void look(Object object, ArrayDeque<Object> open) throws IllegalAccessException {
            Class<?> type = object.getClass();
            if (type.isArray()) {
                elements += Array.getLength(object);
                for (int i = 0; i < Array.getLength(object) && !type.getComponentType().isPrimitive(); i++) {
                    put(Array.get(object, i), open);
                }
            } else if (object instanceof Collection) {
                for (Object held : (Collection<?>) object) {
                    elements++;
                    put(held, open);
                }
            } else if (type.getName().startsWith("MolesLawn")) {
                lookAtFields(object, open);
            } else {
                elements += object.toString().length();
            }
        }

        private void lookAtFields(Object object, ArrayDeque<Object> open) throws IllegalAccessException {
            for (Field field : object.getClass().getDeclaredFields()) {
                if (!java.lang.reflect.Modifier.isStatic(field.getModifiers())) {
                    elements++;
                    field.setAccessible(true);
                    put(field.getType().isPrimitive() ? null : field.get(object), open);
                }
            }
        }

        private static void put(Object object, ArrayDeque<Object> open) {
            if (object != null) {
                open.add(object);
            }
        }
    }

    // As many tunnels as 512 calls can bring, in the snapshot and in the saved states too.
    private static void lookAtTheRoom() throws IllegalAccessException {
        MolesLawn x = new MolesLawn();
        x.mole(0);
        x.mole(1);
        for (int i = 0; i < 480; i++) {
            x.plan(0, i % 2 == 0 ? 1 : 3);
            if (i % 20 == 19) {
                x.pass(30);
            }
        }
        x.keep();
        x.digest();
        Room room = new Room(x);
        check(12, "an object keeps " + room.objects.size() + " objects", room.objects.size() < 60_000);
        check(12, "an object keeps " + room.elements + " elements", room.elements < 730_000);
        System.out.println("an object keeps " + room.objects.size() + " objects and arrays, with "
                + room.elements + " fields and elements");
    }

    public static void main(String[] args) throws IOException, IllegalAccessException {
        readSource();
        lookAtTheRoom();
        System.out.println(wrong == 0 ? "the class keeps to the language" : wrong + " things are beyond the language");
        if (wrong != 0) {
            System.exit(1);
        }
    }
}
