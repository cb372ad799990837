import com.sun.source.tree.*;
import com.sun.source.util.JavacTask;
import com.sun.source.util.TreePath;
import com.sun.source.util.TreePathScanner;
import com.sun.source.util.Trees;
import java.util.ArrayList;
import java.util.Arrays;
import java.util.HashMap;
import java.util.HashSet;
import java.util.LinkedHashMap;
import java.util.List;
import java.util.Map;
import java.util.Set;
import java.util.TreeSet;
import javax.lang.model.element.Element;
import javax.lang.model.element.ElementKind;
import javax.lang.model.element.ExecutableElement;
import javax.lang.model.element.Modifier;
import javax.lang.model.element.TypeElement;
import javax.lang.model.type.ArrayType;
import javax.lang.model.type.TypeKind;
import javax.lang.model.type.TypeMirror;
import javax.tools.JavaCompiler;
import javax.tools.StandardJavaFileManager;
import javax.tools.ToolProvider;

/**
 * The rules of LANGUAGE.md that can be read from the program itself, as javac reads it. Takes the path of the program.
 * The program uses less than the rules leave; what it does not use is refused here too, so that whoever wants it looks
 * at the rule first.
 */
public final class LanguageTests {
    private static final int MOST_LINES = 60, MOST_DEEP = 8, MOST_PARAMETERS = 7, MOST_CLASSES = 12, MOST_FIELDS = 20;
    private static final Set<String> LIBRARY = Set.of(
            "Math.abs", "Math.min", "Math.max", "Integer.bitCount", "Object.<init>");
    /** Rule 8: who may call itself; each carries its depth, or goes on by BIDDERS, and refuses to go deeper. */
    private static final Set<String> RECURSIVE = Set.of("Letting.walk", "Fitting.walk", "Ringers.goesOn");
    /** Rule 7: divisors that are no plain number; each stands behind its test. */
    private static final Set<String> DIVISORS = Set.of("lesser", "common");
    private static int wrong = 0;

    public static void main(String[] args) throws Exception {
        String path = args.length > 0 ? args[0] : "src/main/java/BellSeconds.java";
        JavaCompiler compiler = ToolProvider.getSystemJavaCompiler();
        try (StandardJavaFileManager files = compiler.getStandardFileManager(null, null, null)) {
            JavacTask task = (JavacTask) compiler.getTask(
                    null, files, null, List.of("-proc:none"), null, files.getJavaFileObjects(path));
            List<CompilationUnitTree> units = new ArrayList<>();
            task.parse().forEach(units::add);
            task.analyze();
            sure(units.size() == 1, "one file");
            for (CompilationUnitTree unit : units) {
                Look look = new Look(Trees.instance(task), unit);
                look.scan(unit, null);
                look.end();
            }
        }
        System.out.println(wrong == 0 ? "the rules are kept" : wrong + " things are not as the rules say");
        if (wrong != 0) System.exit(1);
    }

    private static void sure(boolean so, String what) {
        if (!so) {
            wrong++;
            System.out.println("not so: " + what);
        }
    }

    private static final class Look extends TreePathScanner<Void, Void> {
        private final Trees trees;
        private final CompilationUnitTree unit;
        private final Map<String, Set<String>> calls = new LinkedHashMap<>();
        private final Set<String> publicNames = new TreeSet<>();
        private final Set<String> privateNames = new TreeSet<>();
        private int classes = 0;
        private String method = "";
        private boolean making = false;

        Look(Trees trees, CompilationUnitTree unit) {
            this.trees = trees;
            this.unit = unit;
        }

        private int line(long at) {
            return (int) unit.getLineMap().getLineNumber(at);
        }

        private int lineOf(Tree tree) {
            return line(trees.getSourcePositions().getStartPosition(unit, tree));
        }

        private void rule(int number, boolean so, Tree where, String what) {
            sure(so, "rule " + number + ", line " + lineOf(where) + ": " + what);
        }

        private Element elementOf(Tree tree) {
            return trees.getElement(TreePath.getPath(unit, tree));
        }

        private static boolean isOwn(Element element) {
            for (Element e = element; e != null; e = e.getEnclosingElement()) {
                if (e.getKind() == ElementKind.CLASS && e.getSimpleName().contentEquals("BellSeconds")) return true;
            }
            return false;
        }

        // ---- classes, fields, methods

        @Override
        public Void visitCompilationUnit(CompilationUnitTree tree, Void none) {
            sure(tree.getPackage() == null, "no package line");
            sure(tree.getImports().isEmpty(), "rule 4: nothing is imported");
            sure(tree.getTypeDecls().size() == 1, "rule 1: one class stands outside");
            return super.visitCompilationUnit(tree, none);
        }

        @Override
        public Void visitClass(ClassTree tree, Void none) {
            TypeElement element = (TypeElement) elementOf(tree);
            classes++;
            boolean outer = element.getEnclosingElement().getKind() == ElementKind.PACKAGE;
            rule(2, method.isEmpty() && !tree.getSimpleName().toString().isEmpty(), tree, "no local or anonymous class");
            rule(2, tree.getKind() == Tree.Kind.CLASS, tree, "plain classes alone");
            if (!outer) {
                rule(2, element.getModifiers().contains(Modifier.STATIC), tree, "classes inside are static");
                rule(1, element.getModifiers().contains(Modifier.PRIVATE), tree, "classes inside are private");
            }
            int fields = 0;
            for (Tree member : tree.getMembers()) {
                if (member instanceof BlockTree) rule(5, false, member, "no initialiser block");
                if (member instanceof VariableTree field) fields += see(field) ? 0 : 1;
            }
            rule(11, fields <= MOST_FIELDS, tree, tree.getSimpleName() + " has " + fields + " fields");
            return super.visitClass(tree, none);
        }

        /** Whether the field is a constant. */
        private boolean see(VariableTree field) {
            Set<Modifier> modifiers = field.getModifiers().getFlags();
            boolean constant = modifiers.contains(Modifier.STATIC);
            if (constant) {
                rule(5, modifiers.contains(Modifier.FINAL), field, field.getName() + " is final");
                boolean plain = ((javax.lang.model.element.VariableElement) elementOf(field)).getConstantValue() != null;
                rule(5, plain, field, field.getName() + " is a constant that is told by its number");
            }
            boolean hidden = modifiers.contains(Modifier.PRIVATE);
            rule(1, hidden || constant && modifiers.contains(Modifier.PUBLIC), field, field.getName() + " is private");
            return constant;
        }

        @Override
        public Void visitMethod(MethodTree tree, Void none) {
            ExecutableElement element = (ExecutableElement) elementOf(tree);
            method = nameOf(element);
            making = element.getKind() == ElementKind.CONSTRUCTOR;
            calls.computeIfAbsent(method, name -> new TreeSet<>());
            if (!making) {
                boolean open = element.getModifiers().contains(Modifier.PUBLIC);
                (open ? publicNames : privateNames).add(element.getSimpleName().toString());
                boolean outer = method.startsWith("BellSeconds.");
                boolean hidden = element.getModifiers().contains(Modifier.PRIVATE);
                rule(1, outer ? open || hidden : !open, tree, method + " is of the face, or can not be seen");
            }
            rule(11, tree.getParameters().size() <= MOST_PARAMETERS, tree, method + " takes seven at most");
            long end = trees.getSourcePositions().getEndPosition(unit, tree);
            int lines = end < 0 ? 0 : line(end) - lineOf(tree) + 1;
            rule(11, lines <= MOST_LINES, tree, method + " has " + lines + " lines");
            rule(6, !Set.of("equals", "hashCode", "toString").contains(tree.getName().toString()), tree, "none of Object's");
            super.visitMethod(tree, none);
            method = "";
            making = false;
            return null;
        }

        private static String nameOf(ExecutableElement element) {
            return element.getEnclosingElement().getSimpleName() + "." + element.getSimpleName();
        }

        // ---- types and the library

        @Override
        public Void visitVariable(VariableTree tree, Void none) {
            TypeMirror type = elementOf(tree).asType();
            TypeMirror inner = type instanceof ArrayType array ? array.getComponentType() : type;
            boolean number = Set.of(TypeKind.INT, TypeKind.LONG, TypeKind.BOOLEAN).contains(inner.getKind());
            boolean own = inner.getKind() == TypeKind.DECLARED && inner.toString().startsWith("BellSeconds");
            rule(3, number || own, tree, tree.getName() + " is a number, a boolean, a row of such, or of an own class");
            return super.visitVariable(tree, none);
        }

        @Override
        public Void visitMethodInvocation(MethodInvocationTree tree, Void none) {
            called((ExecutableElement) elementOf(tree.getMethodSelect()), tree);
            return super.visitMethodInvocation(tree, none);
        }

        @Override
        public Void visitNewClass(NewClassTree tree, Void none) {
            rule(12, making, tree, "an object is made in constructors alone");
            called((ExecutableElement) elementOf(tree), tree);
            return super.visitNewClass(tree, none);
        }

        @Override
        public Void visitNewArray(NewArrayTree tree, Void none) {
            rule(12, making || method.isEmpty(), tree, "a row is made with its object alone");
            return super.visitNewArray(tree, none);
        }

        private void called(ExecutableElement element, Tree where) {
            String name = nameOf(element);
            rule(4, isOwn(element) || LIBRARY.contains(name), where, name + " stands in LANGUAGE.md");
            if (isOwn(element)) calls.computeIfAbsent(method, key -> new TreeSet<>()).add(name);
        }

        @Override
        public Void visitTypeCast(TypeCastTree tree, Void none) {
            rule(6, tree.getType() instanceof PrimitiveTypeTree, tree, "a number is made another one; no other cast");
            return super.visitTypeCast(tree, none);
        }

        // ---- what is never there

        @Override
        public Void scan(Tree tree, Void none) {
            if (tree != null) {
                switch (tree.getKind()) {
                    case THROW: case TRY: case CATCH: case SYNCHRONIZED: case ASSERT: case INSTANCE_OF:
                    case STRING_LITERAL: case SWITCH_EXPRESSION:
                        rule(6, false, tree, "no " + tree.getKind());
                        break;
                    case LAMBDA_EXPRESSION: case MEMBER_REFERENCE:
                        rule(2, false, tree, "no " + tree.getKind());
                        break;
                    case WHILE_LOOP: case DO_WHILE_LOOP: case ENHANCED_FOR_LOOP:
                        rule(9, false, tree, "no " + tree.getKind());
                        break;
                    default:
                        break;
                }
            }
            return super.scan(tree, none);
        }

        // ---- loops and divisors

        /** One counter, told in the head, set against a bound there, and changed by one in the head alone. */
        @Override
        public Void visitForLoop(ForLoopTree tree, Void none) {
            boolean one = tree.getInitializer().size() == 1 && tree.getUpdate().size() == 1;
            rule(9, one && tree.getInitializer().get(0) instanceof VariableTree, tree, "one counter");
            if (!one || !(tree.getInitializer().get(0) instanceof VariableTree counter)) return super.visitForLoop(tree, none);
            String name = counter.getName().toString();
            String step = tree.getUpdate().get(0).toString().replace(";", "").trim();
            boolean up = step.equals(name + "++");
            rule(9, up || step.equals(name + "--"), tree, name + " goes on by one");
            boolean bound = false;
            for (String part : String.valueOf(tree.getCondition()).split("&&")) {
                bound |= part.trim().matches(name + (up ? " <=? .+" : " >=? .+"));
            }
            rule(9, bound && !tree.getCondition().toString().contains("||"), tree, name + " is set against a bound");
            rule(9, !changes(tree.getStatement(), name), tree, name + " is changed in the head alone");
            return super.visitForLoop(tree, none);
        }

        private static boolean changes(Tree body, String name) {
            boolean[] found = {false};
            new com.sun.source.util.TreeScanner<Void, Void>() {
                private void see(Tree target) {
                    found[0] |= target.toString().equals(name);
                }

                @Override
                public Void visitAssignment(AssignmentTree tree, Void none) {
                    see(tree.getVariable());
                    return super.visitAssignment(tree, none);
                }

                @Override
                public Void visitCompoundAssignment(CompoundAssignmentTree tree, Void none) {
                    see(tree.getVariable());
                    return super.visitCompoundAssignment(tree, none);
                }

                @Override
                public Void visitUnary(UnaryTree tree, Void none) {
                    boolean step = tree.getKind().toString().endsWith("CREMENT");
                    if (step) see(tree.getExpression());
                    return super.visitUnary(tree, none);
                }
            }.scan(body, null);
            return found[0];
        }

        @Override
        public Void visitBinary(BinaryTree tree, Void none) {
            if (tree.getKind() == Tree.Kind.DIVIDE || tree.getKind() == Tree.Kind.REMAINDER) {
                String divisor = tree.getRightOperand().toString();
                boolean plain = divisor.matches("[1-9][0-9]*L?");
                rule(7, plain || DIVISORS.contains(divisor), tree, divisor + " is tested before it divides");
            }
            return super.visitBinary(tree, none);
        }

        @Override
        public Void visitCompoundAssignment(CompoundAssignmentTree tree, Void none) {
            boolean divides = Arrays.asList(Tree.Kind.DIVIDE_ASSIGNMENT, Tree.Kind.REMAINDER_ASSIGNMENT).contains(tree.getKind());
            rule(7, !divides, tree, "a division stands for itself");
            return super.visitCompoundAssignment(tree, none);
        }

        // ---- what the whole shows

        void end() {
            sure(classes <= MOST_CLASSES, "rule 11: " + classes + " classes, twelve at most");
            for (String name : privateNames) sure(!publicNames.contains(name), "rule 1: " + name + " is of the face alone");
            Map<String, Integer> deep = new HashMap<>();
            for (String name : calls.keySet()) {
                sure(RECURSIVE.contains(name) == calls.get(name).contains(name), "rule 8: who calls itself: " + name);
                int depth = depthOf(name, deep, new HashSet<>());
                sure(depth <= MOST_DEEP, "rule 11: calls from " + name + " on go " + depth + " deep");
            }
        }

        /** How many calls stand open at most from a method on, itself among them; one that calls itself counts once. */
        private int depthOf(String name, Map<String, Integer> known, Set<String> open) {
            if (known.containsKey(name)) return known.get(name);
            int most = 0;
            open.add(name);
            for (String next : calls.getOrDefault(name, Set.of())) {
                if (next.equals(name)) continue;
                sure(!open.contains(next), "rule 8: " + name + " and " + next + " call one another");
                if (!open.contains(next)) most = Math.max(most, depthOf(next, known, open));
            }
            open.remove(name);
            known.put(name, most + 1);
            return most + 1;
        }
    }
}
