import com.sun.source.tree.AssignmentTree;
import com.sun.source.tree.BinaryTree;
import com.sun.source.tree.CompoundAssignmentTree;
import com.sun.source.tree.ExpressionStatementTree;
import com.sun.source.tree.ExpressionTree;
import com.sun.source.tree.ForLoopTree;
import com.sun.source.tree.IdentifierTree;
import com.sun.source.tree.MemberSelectTree;
import com.sun.source.tree.ParenthesizedTree;
import com.sun.source.tree.StatementTree;
import com.sun.source.tree.Tree;
import com.sun.source.tree.Tree.Kind;
import com.sun.source.tree.UnaryTree;
import com.sun.source.tree.VariableTree;
import com.sun.source.util.TreeScanner;
import java.util.HashSet;
import java.util.List;
import java.util.Set;

/** A for loop whose end can be seen from its own lines: a counter that only counts up, against a bound that stays. */
final class Counter {
    private Counter() {
    }

    static boolean hasEnd(ForLoopTree loop) {
        String counter = declared(loop.getInitializer());
        if (counter == null || !counter.equals(counted(loop.getUpdate()))) {
            return false;
        }
        ExpressionTree bound = bound(loop.getCondition(), counter);
        if (bound == null) {
            return false;
        }
        Set<String> staying = names(bound);
        staying.add(counter);
        return changedNames(loop.getStatement()).stream().noneMatch(staying::contains);
    }

    private static String declared(List<? extends StatementTree> initializer) {
        return initializer.size() == 1 && initializer.get(0) instanceof VariableTree v ? v.getName().toString() : null;
    }

    private static String counted(List<? extends ExpressionStatementTree> update) {
        boolean isOneStep = update.size() == 1 && update.get(0).getExpression() instanceof UnaryTree step
            && (step.getKind() == Kind.POSTFIX_INCREMENT || step.getKind() == Kind.PREFIX_INCREMENT);
        return isOneStep ? ((UnaryTree) update.get(0).getExpression()).getExpression().toString() : null;
    }

    /** The bound of the counter in a condition that has to hold as a whole, or null. */
    private static ExpressionTree bound(ExpressionTree condition, String counter) {
        if (condition instanceof ParenthesizedTree inner) {
            return bound(inner.getExpression(), counter);
        }
        if (!(condition instanceof BinaryTree both)) {
            return null;
        }
        if (both.getKind() == Kind.CONDITIONAL_AND) {
            ExpressionTree left = bound(both.getLeftOperand(), counter);
            return left != null ? left : bound(both.getRightOperand(), counter);
        }
        boolean isLess = both.getKind() == Kind.LESS_THAN || both.getKind() == Kind.LESS_THAN_EQUAL;
        return isLess && both.getLeftOperand().toString().equals(counter) ? both.getRightOperand() : null;
    }

    private static Set<String> names(Tree tree) {
        Set<String> all = new HashSet<>();
        new TreeScanner<Void, Void>() {
            @Override
            public Void visitIdentifier(IdentifierTree node, Void nothing) {
                all.add(node.getName().toString());
                return null;
            }

            @Override
            public Void visitMemberSelect(MemberSelectTree node, Void nothing) {
                all.add(node.getIdentifier().toString());
                return super.visitMemberSelect(node, nothing);
            }
        }.scan(tree, null);
        return all;
    }

    private static Set<String> changedNames(Tree tree) {
        Set<String> all = new HashSet<>();
        new TreeScanner<Void, Void>() {
            @Override
            public Void visitAssignment(AssignmentTree node, Void nothing) {
                all.add(lastName(node.getVariable()));
                return super.visitAssignment(node, nothing);
            }

            @Override
            public Void visitCompoundAssignment(CompoundAssignmentTree node, Void nothing) {
                all.add(lastName(node.getVariable()));
                return super.visitCompoundAssignment(node, nothing);
            }

            @Override
            public Void visitUnary(UnaryTree node, Void nothing) {
                if (node.getKind().name().endsWith("CREMENT")) {
                    all.add(lastName(node.getExpression()));
                }
                return super.visitUnary(node, nothing);
            }
        }.scan(tree, null);
        return all;
    }

    private static String lastName(ExpressionTree place) {
        return place instanceof MemberSelectTree select ? select.getIdentifier().toString() : place.toString();
    }
}
