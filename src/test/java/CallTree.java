import java.util.ArrayList;
import java.util.LinkedHashSet;
import java.util.List;
import java.util.Map;
import java.util.Set;
import java.util.TreeMap;
import java.util.TreeSet;

/** Which methods of the program call which. */
final class CallTree {
    private final Map<String, Set<String>> called = new TreeMap<>();

    void add(String from, String to) {
        called.computeIfAbsent(from, name -> new TreeSet<>()).add(to);
    }

    int size() {
        return called.values().stream().mapToInt(Set::size).sum();
    }

    private Set<String> calledBy(String from) {
        return called.getOrDefault(from, Set.of());
    }

    /** The methods that may stand open twice at once. */
    List<String> recursive() {
        List<String> found = new ArrayList<>();
        for (String method : called.keySet()) {
            Set<String> reached = new LinkedHashSet<>(calledBy(method));
            for (List<String> open = new ArrayList<>(reached); !open.isEmpty();) {
                for (String next : calledBy(open.remove(open.size() - 1))) {
                    if (reached.add(next)) {
                        open.add(next);
                    }
                }
            }
            if (reached.contains(method)) {
                found.add(method);
            }
        }
        return found;
    }

    /** The longest chain of calls; it has an end only if no method is recursive. */
    List<String> deepest() {
        List<String> deepest = List.of();
        if (recursive().isEmpty()) {
            for (String method : called.keySet()) {
                List<String> chain = deepestFrom(method);
                deepest = chain.size() > deepest.size() ? chain : deepest;
            }
        }
        return deepest;
    }

    private List<String> deepestFrom(String method) {
        List<String> deepest = List.of();
        for (String next : calledBy(method)) {
            List<String> chain = deepestFrom(next);
            deepest = chain.size() > deepest.size() ? chain : deepest;
        }
        List<String> whole = new ArrayList<>(List.of(method));
        whole.addAll(deepest);
        return whole;
    }
}
