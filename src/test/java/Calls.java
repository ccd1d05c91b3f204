import java.util.HashMap;
import java.util.LinkedHashSet;
import java.util.Map;
import java.util.Set;
import javax.lang.model.element.ExecutableElement;

/** Which method calls which: how deep the calls go, and whether one leads back to itself. */
final class Calls {
    private static final int CYCLE = 1000000;

    private final Map<ExecutableElement, Set<ExecutableElement>> called = new HashMap<>();

    /** A call in the initialiser of a field stands in no method: from is null then. */
    void add(ExecutableElement from, ExecutableElement to) {
        called.computeIfAbsent(from, x -> new LinkedHashSet<>()).add(to);
    }

    boolean hasCycle() {
        return depth() >= CYCLE;
    }

    /** How many calls stand open at most, the first one of them included. */
    int depth() {
        Map<ExecutableElement, Integer> known = new HashMap<>();
        int deepest = 0;
        for (ExecutableElement method : called.keySet()) {
            deepest = Math.max(deepest, depth(method, known));
        }
        return deepest;
    }

    private int depth(ExecutableElement method, Map<ExecutableElement, Integer> known) {
        Integer before = known.putIfAbsent(method, CYCLE);
        if (before != null) {
            return before;
        }
        int deepest = 0;
        for (ExecutableElement next : called.getOrDefault(method, Set.of())) {
            deepest = Math.max(deepest, depth(next, known));
        }
        int own = Math.min(CYCLE, deepest + 1);
        known.put(method, own);
        return own;
    }
}
