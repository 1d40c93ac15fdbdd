import java.nio.file.Path;
import java.util.List;
import java.util.Set;
import javax.lang.model.element.ElementKind;
import javax.lang.model.element.ExecutableElement;
import javax.lang.model.element.Modifier;

/** What the source's own calls tell: promise 15's other way, and rules 4, 8, 11 and 12 of LANGUAGE.md. Takes its path. */
public final class CallsInsideTest {
    private static final int DEEPEST_CALL = 8;
    private static final List<String> QUESTIONS = List.of(
        "length", "letterAt", "nodes", "regions", "regionsOneByOne", "regionAt", "has", "covered", "longest", "deepest");
    // What changes the text and the marks: it has its rows since the object was made.
    private static final List<String> CHANGES_OF_TEXT = List.of("insert", "remove", "mark", "unmark");
    // Of what rule 4 lists, all but texts and lists, for which the program has no use.
    private static final String LIBRARY = "java\\.lang\\.("
        + "Object\\.<init>|(Math|Integer|Long)\\.(compare|max|min|abs|bitCount|floorDiv|floorMod|signum|"
        + "numberOfTrailingZeros|numberOfLeadingZeros|highestOneBit|lowestOneBit)|System\\.arraycopy|"
        + "(IllegalState|IllegalArgument|IndexOutOfBounds|Arithmetic|UnsupportedOperation|Runtime)Exception\\.<init>)"
        + "|java\\.util\\.(NoSuchElementException\\.<init>|Arrays\\.(copyOf|copyOfRange|fill))";

    private static final Check check = new Check("CallsInsideTest");

    private static CallGraph graph;

    public static void main(String[] args) throws Exception {
        graph = new CallGraph(Path.of(args[0]));
        check.run(
            CallsInsideTest::libraryCalls, CallsInsideTest::noRecursion, CallsInsideTest::depthOfCalls,
            CallsInsideTest::questionsMakeNothing, CallsInsideTest::twoWays);
        check.end();
    }

    private static void libraryCalls() {
        check.sentence("LANGUAGE.md, rule 4: The library: only what stands here");
        for (ExecutableElement method : graph.own()) {
            for (ExecutableElement called : graph.reached(method)) {
                String name = CallGraph.told(called);
                check.same(CallGraph.told(method) + " calls " + name, true, graph.isOwn(called) || name.matches(LIBRARY));
            }
        }
    }

    // The rule allows some; the program has none, and only so can its depth be told.
    private static void noRecursion() {
        check.sentence("LANGUAGE.md, rule 8: no call of the program stands open twice");
        for (ExecutableElement method : graph.own()) {
            check.same(CallGraph.told(method) + " calls itself", false, graph.isRecursive(method));
        }
    }

    private static void depthOfCalls() {
        check.sentence("LANGUAGE.md, rule 11: calls that are no recursion go at most eight deep");
        if (graph.own().stream().anyMatch(graph::isRecursive)) {
            check.fail("the depth of calls can't be told where one calls itself");
            return;
        }
        for (ExecutableElement method : graph.own()) {
            if (method.getModifiers().contains(Modifier.PUBLIC)) {
                check.same(CallGraph.told(method) + " goes too deep", false, graph.depth(method) > DEEPEST_CALL);
            }
        }
    }

    private static void questionsMakeNothing() {
        check.sentence("LANGUAGE.md, rule 12: What a run makes is counted: a question makes no object");
        for (List<String> names : List.of(QUESTIONS, CHANGES_OF_TEXT)) {
            for (String name : names) {
                for (ExecutableElement called : graph.reached(graph.face(name))) {
                    check.same(name + " makes an object by " + CallGraph.told(called), false, graph.isMaker(called));
                }
            }
        }
    }

    /** No answer tells the one way from the other, so what they call must. */
    private static void twoWays() {
        check.sentence("Promise 15: the same, found by asking of each region of the text whether it is one of the node's");
        Set<ExecutableElement> oneByOne = graph.reached(graph.face("regionsOneByOne"));
        Set<ExecutableElement> gathering = graph.reached(graph.face("regions"));
        int asking = 0;
        for (ExecutableElement method : graph.own()) {
            String name = CallGraph.told(method);
            boolean isOfANode = name.endsWith("Expression." + method.getSimpleName()) && method.getKind() == ElementKind.METHOD;
            if (isOfANode && !method.getSimpleName().contentEquals("needs")) {
                boolean isBoth = oneByOne.contains(method) && gathering.contains(method);
                check.same("both ways go by " + name, false, isBoth);
            }
            if (method.getSimpleName().contentEquals("isOne")) {
                asking++;
                check.same("regionsOneByOne asks by " + name, true, oneByOne.contains(method));
            }
        }
        check.same("regionsOneByOne asks", true, asking > 0);
        check.same("regionsOneByOne goes by regions", false, oneByOne.contains(graph.face("regions")));
    }
}
