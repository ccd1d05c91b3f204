import com.sun.source.tree.ArrayAccessTree;
import com.sun.source.tree.AssertTree;
import com.sun.source.tree.AssignmentTree;
import com.sun.source.tree.BinaryTree;
import com.sun.source.tree.BlockTree;
import com.sun.source.tree.ClassTree;
import com.sun.source.tree.CompilationUnitTree;
import com.sun.source.tree.CompoundAssignmentTree;
import com.sun.source.tree.DoWhileLoopTree;
import com.sun.source.tree.ExpressionTree;
import com.sun.source.tree.ForLoopTree;
import com.sun.source.tree.IdentifierTree;
import com.sun.source.tree.LambdaExpressionTree;
import com.sun.source.tree.MemberReferenceTree;
import com.sun.source.tree.MemberSelectTree;
import com.sun.source.tree.MethodInvocationTree;
import com.sun.source.tree.MethodTree;
import com.sun.source.tree.NewArrayTree;
import com.sun.source.tree.NewClassTree;
import com.sun.source.tree.SynchronizedTree;
import com.sun.source.tree.ThrowTree;
import com.sun.source.tree.Tree;
import com.sun.source.tree.Tree.Kind;
import com.sun.source.tree.TryTree;
import com.sun.source.tree.UnaryTree;
import com.sun.source.tree.VariableTree;
import com.sun.source.tree.WhileLoopTree;
import com.sun.source.util.JavacTask;
import com.sun.source.util.TreePath;
import com.sun.source.util.TreePathScanner;
import com.sun.source.util.Trees;
import java.io.IOException;
import java.net.URI;
import java.util.ArrayList;
import java.util.HashSet;
import java.util.List;
import java.util.Set;
import javax.lang.model.element.Element;
import javax.lang.model.element.ElementKind;
import javax.lang.model.element.ExecutableElement;
import javax.lang.model.element.Modifier;
import javax.lang.model.element.VariableElement;
import javax.lang.model.type.ArrayType;
import javax.lang.model.type.DeclaredType;
import javax.lang.model.type.TypeKind;
import javax.lang.model.type.TypeMirror;
import javax.tools.JavaCompiler;
import javax.tools.JavaFileObject;
import javax.tools.SimpleJavaFileObject;
import javax.tools.ToolProvider;

/**
 * What of the rules of LANGUAGE.md can be read off the tree that the compiler makes of a source. Rule 7 can't: the tests
 * of extreme arguments stand for it. Where it is simpler, less is let pass than the rules would allow (no while, no try).
 */
final class Rules extends TreePathScanner<Void, Void> {
    private static final Set<String> IMPORTS = Set.of("java.util.ArrayList", "java.util.List", "java.util.Iterator",
        "java.util.Arrays");
    private static final Set<String> TYPES = Set.of("java.lang.String", "java.lang.StringBuilder", "java.lang.Integer",
        "java.util.ArrayList", "java.util.List", "java.util.Iterator", "java.lang.Iterable", "java.lang.Comparable");
    private static final Set<String> MADE = Set.of("java.lang.String", "java.lang.StringBuilder", "java.util.ArrayList");
    private static final Set<String> NUMBERS = Set.of("java.lang.Integer", "java.lang.Long", "java.lang.Math");
    private static final Set<String> LIBRARY = Set.of("String.length", "String.charAt", "String.isEmpty", "String.equals",
        "String.indexOf", "String.substring", "String.toCharArray", "StringBuilder.append", "StringBuilder.charAt",
        "StringBuilder.setCharAt", "StringBuilder.setLength", "StringBuilder.deleteCharAt", "StringBuilder.reverse",
        "StringBuilder.length", "StringBuilder.toString", "ArrayList.add", "ArrayList.get", "ArrayList.set",
        "ArrayList.remove", "ArrayList.size", "ArrayList.isEmpty", "ArrayList.clear", "List.add", "List.get", "List.set",
        "List.remove", "List.size", "List.isEmpty", "List.clear", "List.of", "System.arraycopy", "Arrays.copyOf",
        "Arrays.copyOfRange", "Arrays.fill");
    private static final Set<String> OF_OBJECTS = Set.of("equals", "hashCode", "toString");
    private static final Set<Kind> INSIDE = Set.of(Kind.CLASS, Kind.RECORD, Kind.ENUM, Kind.INTERFACE);
    private static final Set<TypeKind> FLOATING = Set.of(TypeKind.DOUBLE, TypeKind.FLOAT);
    private static final int MOST_LINES = 60, MOST_PARAMETERS = 7, MOST_FIELDS = 20, MOST_CLASSES = 12, DEEPEST = 8;

    private final String text;
    private final Trees trees;
    private final CompilationUnitTree unit;
    private final List<String> faults = new ArrayList<>();
    private final Calls calls = new Calls();
    private final Set<String> openNames = new HashSet<>();
    private ExecutableElement method;
    private int classes;

    private Rules(String source, JavacTask task, CompilationUnitTree itsUnit) {
        text = source;
        trees = Trees.instance(task);
        unit = itsUnit;
    }

    /** The faults that were found, each beginning with "rule N"; a source that doesn't compile has one. */
    static List<String> faults(String source) throws IOException {
        JavaCompiler compiler = ToolProvider.getSystemJavaCompiler();
        JavaFileObject file = new SimpleJavaFileObject(URI.create("string:///MeshParents.java"), JavaFileObject.Kind.SOURCE) {
            @Override
            public CharSequence getCharContent(boolean ignored) {
                return source;
            }
        };
        List<String> errors = new ArrayList<>();
        JavacTask task = (JavacTask) compiler.getTask(null, null, error -> errors.add("javac: " + error),
            List.of("--release", "17", "-proc:none"), null, List.of(file));
        CompilationUnitTree unit = task.parse().iterator().next();
        task.analyze();
        if (!errors.isEmpty()) {
            return errors;
        }
        Rules rules = new Rules(source, task, unit);
        rules.scan(unit, null);
        rules.wholeFile();
        return rules.faults;
    }

    private void fault(int rule, boolean isFault, String what) {
        if (isFault) {
            Tree here = getCurrentPath() == null ? unit : getCurrentPath().getLeaf();
            faults.add("rule " + rule + ", line " + lineOf(trees.getSourcePositions().getStartPosition(unit, here)) + ": " + what);
        }
    }

    private long lineOf(long position) {
        return unit.getLineMap().getLineNumber(Math.max(0, position));
    }

    private void wholeFile() {
        fault(11, classes > MOST_CLASSES, classes + " classes");
        fault(8, calls.hasCycle(), "a recursion without a guard that a test knows");
        fault(11, !calls.hasCycle() && calls.depth() > DEEPEST, "calls go " + calls.depth() + " deep");
        for (char sign : text.toCharArray()) {
            fault(4, sign != '\n' && (sign < 32 || sign > 126), "a sign with the number " + (int) sign);
        }
    }

    // ---- rule 1 and 2: the file, its classes

    @Override
    public Void visitCompilationUnit(CompilationUnitTree node, Void nothing) {
        fault(1, node.getPackageName() != null, "a package line");
        fault(1, node.getTypeDecls().size() != 1, "not one class alone");
        node.getImports().forEach(i -> fault(4, i.isStatic() || !IMPORTS.contains(i.getQualifiedIdentifier().toString()), "" + i));
        return super.visitCompilationUnit(node, nothing);
    }

    @Override
    public Void visitClass(ClassTree node, Void nothing) {
        classes++;
        Set<Modifier> flags = node.getModifiers().getFlags();
        boolean isOuter = getCurrentPath().getParentPath().getLeaf() == unit;
        if (isOuter) {
            fault(1, !flags.equals(Set.of(Modifier.PUBLIC, Modifier.FINAL)), "the class is " + flags);
            node.getMembers().forEach(this::noteOpenName);
        } else {
            fault(2, !INSIDE.contains(node.getKind()), "a " + node.getKind());
            fault(2, !(getCurrentPath().getParentPath().getLeaf() instanceof ClassTree), "a class inside a method");
            fault(2, node.getKind() == Kind.CLASS && !flags.contains(Modifier.STATIC), "an inner class that isn't static");
            fault(1, flags.contains(Modifier.PUBLIC) || flags.contains(Modifier.PROTECTED), "a class inside is " + flags);
        }
        long fields = node.getMembers().stream().filter(m -> m instanceof VariableTree v && !isStatic(v)).count();
        fault(11, fields > MOST_FIELDS, fields + " fields");
        node.getMembers().forEach(m -> fault(5, m instanceof BlockTree b && b.isStatic(), "a static initialiser block"));
        if (isOuter) {
            node.getMembers().forEach(this::faceMember);
        }
        return super.visitClass(node, nothing);
    }

    private void noteOpenName(Tree member) {
        if (member instanceof MethodTree m && m.getReturnType() != null
            && m.getModifiers().getFlags().contains(Modifier.PUBLIC)) {
            openNames.add(m.getName().toString());
        }
    }

    private void faceMember(Tree member) {
        if (member instanceof MethodTree m) {
            Set<Modifier> flags = m.getModifiers().getFlags();
            fault(1, !flags.contains(Modifier.PUBLIC) && !flags.contains(Modifier.PRIVATE), m.getName() + " is " + flags);
        } else if (member instanceof VariableTree v) {
            Set<Modifier> flags = v.getModifiers().getFlags();
            boolean isConstant = flags.equals(Set.of(Modifier.PUBLIC, Modifier.STATIC, Modifier.FINAL));
            fault(1, !isConstant && !flags.contains(Modifier.PRIVATE), v.getName() + " is " + flags);
        }
    }

    private static boolean isStatic(VariableTree variable) {
        return variable.getModifiers().getFlags().contains(Modifier.STATIC);
    }

    @Override
    public Void visitLambdaExpression(LambdaExpressionTree node, Void nothing) {
        fault(2, true, "a lambda");
        return super.visitLambdaExpression(node, nothing);
    }

    @Override
    public Void visitMemberReference(MemberReferenceTree node, Void nothing) {
        fault(2, true, "a method reference");
        return super.visitMemberReference(node, nothing);
    }

    // ---- rules 3 and 5: types, static fields

    @Override
    public Void visitVariable(VariableTree node, Void nothing) {
        Element element = trees.getElement(getCurrentPath());
        TypeMirror type = element.asType();
        fault(3, !isAllowed(type), "the type " + type);
        fault(3, FLOATING.contains(type.getKind()), "a " + type + ", whose operations no test looks at");
        if (element.getKind() == ElementKind.FIELD && isStatic(node)) {
            fault(5, !node.getModifiers().getFlags().contains(Modifier.FINAL), node.getName() + " is not final");
            boolean isConstant = ((VariableElement) element).getConstantValue() != null;
            fault(5, !isConstant && !isWrittenOut(type, node.getInitializer()), node.getName() + " is no constant");
        }
        return super.visitVariable(node, nothing);
    }

    private static boolean isWrittenOut(TypeMirror type, ExpressionTree value) {
        return type instanceof ArrayType array && Set.of("int", "long", "char", "byte").contains(array.getComponentType().toString())
            && value instanceof NewArrayTree made && made.getInitializers() != null;
    }

    private boolean isAllowed(TypeMirror type) {
        if (type instanceof ArrayType array) {
            TypeMirror part = array.getComponentType();
            boolean isOfNumbers = part instanceof ArrayType inner && inner.getComponentType().getKind().isPrimitive()
                && inner.getComponentType().getKind() != TypeKind.BOOLEAN;
            return isOfNumbers || part.getKind().isPrimitive() || part instanceof DeclaredType own && isOwn(own.asElement());
        }
        if (type instanceof DeclaredType declared) {
            return isOwn(declared.asElement()) || TYPES.contains(declared.asElement().toString());
        }
        return type.getKind().isPrimitive() || type.getKind() == TypeKind.VOID || type.getKind() == TypeKind.TYPEVAR;
    }

    private boolean isOwn(Element element) {
        Element outer = element;
        while (outer.getEnclosingElement() != null && outer.getEnclosingElement().getKind() != ElementKind.PACKAGE) {
            outer = outer.getEnclosingElement();
        }
        return outer.toString().equals("MeshParents");
    }

    @Override
    public Void visitAssignment(AssignmentTree node, Void nothing) {
        changed(node.getVariable());
        return super.visitAssignment(node, nothing);
    }

    @Override
    public Void visitCompoundAssignment(CompoundAssignmentTree node, Void nothing) {
        changed(node.getVariable());
        fault(10, isText(node.getVariable()), "texts joined by +=");
        return super.visitCompoundAssignment(node, nothing);
    }

    @Override
    public Void visitUnary(UnaryTree node, Void nothing) {
        if (node.getKind().name().endsWith("CREMENT")) {
            changed(node.getExpression());
        }
        return super.visitUnary(node, nothing);
    }

    private void changed(ExpressionTree place) {
        if (place instanceof ArrayAccessTree element) {
            fault(5, isStaticArray(element.getExpression()), "an element of a static array is changed");
        }
    }

    private boolean isStaticArray(Tree tree) {
        Element element = trees.getElement(new TreePath(getCurrentPath(), tree));
        return element instanceof VariableElement && element.getKind() == ElementKind.FIELD
            && element.getModifiers().contains(Modifier.STATIC) && element.asType().getKind() == TypeKind.ARRAY;
    }

    // ---- rules 4, 8, 11 and 12: methods, what they call and make

    @Override
    public Void visitMethod(MethodTree node, Void nothing) {
        ExecutableElement element = (ExecutableElement) trees.getElement(getCurrentPath());
        String name = node.getName().toString();
        fault(1, openNames.contains(name) && !element.getModifiers().contains(Modifier.PUBLIC), name + " is a public one's name");
        fault(3, node.getReturnType() != null && !isAllowed(element.getReturnType()), "answers " + element.getReturnType());
        fault(6, !node.getThrows().isEmpty(), name + " throws");
        fault(6, OF_OBJECTS.contains(name), "an own " + name);
        fault(11, node.getParameters().size() > MOST_PARAMETERS, name + " has " + node.getParameters().size() + " parameters");
        long start = trees.getSourcePositions().getStartPosition(unit, node);
        long end = trees.getSourcePositions().getEndPosition(unit, node);
        fault(11, end >= 0 && lineOf(end) - lineOf(start) >= MOST_LINES, name + " is too long");
        ExecutableElement before = method;
        method = element;
        super.visitMethod(node, nothing);
        method = before;
        return null;
    }

    @Override
    public Void visitMethodInvocation(MethodInvocationTree node, Void nothing) {
        Element called = trees.getElement(new TreePath(getCurrentPath(), node.getMethodSelect()));
        boolean isConstructor = called.getKind() == ElementKind.CONSTRUCTOR;
        if (isOwn(called)) {
            calls.add(method, (ExecutableElement) called);
            fault(12, isInConstructor() && !isConstructor && isOpenToOthers(called), "a constructor calls " + called);
        } else {
            fault(4, !isConstructor && !isInLibrary(called, node), "a call of " + called.getEnclosingElement() + "." + called);
        }
        return super.visitMethodInvocation(node, nothing);
    }

    private boolean isInConstructor() {
        return method != null && method.getKind() == ElementKind.CONSTRUCTOR;
    }

    private static boolean isOpenToOthers(Element called) {
        Set<Modifier> flags = called.getModifiers();
        return !flags.contains(Modifier.PRIVATE) && !flags.contains(Modifier.STATIC) && !flags.contains(Modifier.FINAL)
            && !called.getEnclosingElement().getModifiers().contains(Modifier.FINAL);
    }

    private boolean isInLibrary(Element called, MethodInvocationTree node) {
        String place = called.getEnclosingElement().toString();
        String name = called.getSimpleName().toString();
        if (NUMBERS.contains(place)) {
            return called.getModifiers().contains(Modifier.STATIC) && !name.endsWith("Exact")
                && isOverNumbers((ExecutableElement) called);
        }
        boolean isClone = name.equals("clone") && node.getMethodSelect() instanceof MemberSelectTree select
            && trees.getTypeMirror(new TreePath(getCurrentPath(), select.getExpression())).getKind() == TypeKind.ARRAY;
        return isClone || LIBRARY.contains(place.substring(place.lastIndexOf('.') + 1) + "." + name);
    }

    private static boolean isOverNumbers(ExecutableElement function) {
        return function.getParameters().stream().allMatch(p -> p.asType().getKind() == TypeKind.INT
            || p.asType().getKind() == TypeKind.LONG);
    }

    @Override
    public Void visitNewClass(NewClassTree node, Void nothing) {
        Element constructor = trees.getElement(getCurrentPath());
        fault(2, node.getClassBody() != null, "an anonymous class");
        if (isOwn(constructor)) {
            calls.add(method, (ExecutableElement) constructor);
        } else {
            fault(4, !MADE.contains(constructor.getEnclosingElement().toString()), "a new " + constructor);
        }
        return super.visitNewClass(node, nothing);
    }

    @Override
    public Void visitIdentifier(IdentifierTree node, Void nothing) {
        Tree around = getCurrentPath().getParentPath().getLeaf();
        if (node.getName().contentEquals("this")) {
            fault(12, isInConstructor() && !(around instanceof MemberSelectTree), "a constructor hands out its object");
        }
        boolean isInPlace = around instanceof ArrayAccessTree || around instanceof MemberSelectTree;
        fault(5, !isInPlace && isStaticArray(node), "a static array is handed on");
        return super.visitIdentifier(node, nothing);
    }

    @Override
    public Void visitMemberSelect(MemberSelectTree node, Void nothing) {
        Element element = trees.getElement(getCurrentPath());
        boolean isForeignField = element instanceof VariableElement && element.getKind() == ElementKind.FIELD
            && element.getEnclosingElement() != null && !isOwn(element) && !node.getIdentifier().contentEquals("length");
        fault(4, isForeignField, "the field " + node);
        return super.visitMemberSelect(node, nothing);
    }

    // ---- rules 6, 9 and 10: statements and expressions

    @Override
    public Void visitThrow(ThrowTree node, Void nothing) {
        fault(6, true, "throw");
        return super.visitThrow(node, nothing);
    }

    @Override
    public Void visitTry(TryTree node, Void nothing) {
        fault(6, true, "try");
        return super.visitTry(node, nothing);
    }

    @Override
    public Void visitSynchronized(SynchronizedTree node, Void nothing) {
        fault(6, true, "synchronized");
        return super.visitSynchronized(node, nothing);
    }

    @Override
    public Void visitAssert(AssertTree node, Void nothing) {
        fault(6, true, "assert");
        return super.visitAssert(node, nothing);
    }

    @Override
    public Void visitBinary(BinaryTree node, Void nothing) {
        boolean isSame = node.getKind() == Kind.EQUAL_TO || node.getKind() == Kind.NOT_EQUAL_TO;
        boolean hasText = isText(node.getLeftOperand()) || isText(node.getRightOperand());
        boolean hasBox = isBox(node.getLeftOperand()) && isBox(node.getRightOperand());
        fault(6, isSame && (hasText || hasBox), "== between Strings or Integers");
        fault(10, node.getKind() == Kind.PLUS && hasText, "texts joined by +");
        return super.visitBinary(node, nothing);
    }

    private boolean isText(Tree tree) {
        return "java.lang.String".equals(String.valueOf(trees.getTypeMirror(new TreePath(getCurrentPath(), tree))));
    }

    private boolean isBox(Tree tree) {
        return "java.lang.Integer".equals(String.valueOf(trees.getTypeMirror(new TreePath(getCurrentPath(), tree))));
    }

    @Override
    public Void visitWhileLoop(WhileLoopTree node, Void nothing) {
        fault(9, true, "a while, whose end no test sees");
        return super.visitWhileLoop(node, nothing);
    }

    @Override
    public Void visitDoWhileLoop(DoWhileLoopTree node, Void nothing) {
        fault(9, true, "a do, whose end no test sees");
        return super.visitDoWhileLoop(node, nothing);
    }

    @Override
    public Void visitForLoop(ForLoopTree node, Void nothing) {
        fault(9, !Counter.hasEnd(node), "a loop without a counter against a bound");
        return super.visitForLoop(node, nothing);
    }
}
