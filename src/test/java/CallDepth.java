import com.sun.source.tree.CompilationUnitTree;
import com.sun.source.tree.MethodInvocationTree;
import com.sun.source.tree.MethodTree;
import com.sun.source.tree.NewClassTree;
import com.sun.source.util.TreePathScanner;
import com.sun.source.util.Trees;
import java.util.HashMap;
import java.util.LinkedHashSet;
import java.util.Map;
import java.util.Set;
import javax.lang.model.element.Element;

/** How deep the calls among a source's own methods go, a call back to one that stands open left out. */
final class CallDepth extends TreePathScanner<Void, Void> {
    private final Trees trees;
    private final Map<Element, Set<Element>> calls = new HashMap<>();
    private final Map<Element, Integer> depths = new HashMap<>();
    private final Set<Element> open = new LinkedHashSet<>();
    private Element here = null;

    CallDepth(Trees trees, CompilationUnitTree unit) {
        this.trees = trees;
        scan(unit, null);
    }

    int most() {
        int most = 0;
        for (Element method : calls.keySet()) {
            most = Math.max(most, depthOf(method));
        }
        return most;
    }

    private int depthOf(Element method) {
        Integer known = depths.get(method);
        if (known != null) {
            return known;
        }
        open.add(method);
        int below = 0;
        for (Element other : calls.get(method)) {
            if (calls.containsKey(other) && !open.contains(other)) {
                below = Math.max(below, depthOf(other));
            }
        }
        open.remove(method);
        depths.put(method, below + 1);
        return below + 1;
    }

    @Override
    public Void visitMethod(MethodTree tree, Void none) {
        Element before = here;
        here = trees.getElement(getCurrentPath());
        calls.put(here, new LinkedHashSet<>());
        super.visitMethod(tree, none);
        here = before;
        return null;
    }

    @Override
    public Void visitMethodInvocation(MethodInvocationTree tree, Void none) {
        note();
        return super.visitMethodInvocation(tree, none);
    }

    @Override
    public Void visitNewClass(NewClassTree tree, Void none) {
        note();
        return super.visitNewClass(tree, none);
    }

    private void note() {
        if (here != null) {
            calls.get(here).add(trees.getElement(getCurrentPath()));
        }
    }
}
