import java.util.HashMap;
import java.util.Map;
import java.util.function.Supplier;
import java.util.function.ToLongFunction;

/** Tests of single sentences of the document: each says of which promise, and a refused call is looked at from all sides. */
final class Edge {
    private static final Map<String, Supplier<ClauseCourt>> SCENES = Scenes.all();

    private final Due due;
    private final Map<Supplier<ClauseCourt>, String[]> pictures = new HashMap<>();
    private String where = "";

    Edge(String test) {
        due = new Due(test);
    }

    /** What comes next is of this sentence. */
    void of(String promise, String sentence) {
        where = "promise " + promise + " \"" + sentence + "\": ";
    }

    void is(String call, long wanted, long got) {
        due.is(where + call, wanted, got);
    }

    void is(String call, String wanted, String got) {
        due.is(where + call, wanted, got);
    }

    /** Answered with the code, told by status(), and nothing else is changed. */
    void refused(String call, int code, Supplier<ClauseCourt> scene, ToLongFunction<ClauseCourt> act) {
        changesNothing(call, code, code, scene, act);
    }

    /** As refused(), of a court new and of courts in the middle of their work. */
    void refusedAnywhere(String call, int code, ToLongFunction<ClauseCourt> act) {
        refused(call + " of a new one", code, ClauseCourt::new, act);
        refusedInScenes(call, code, act);
    }

    void refusedInScenes(String call, int code, ToLongFunction<ClauseCourt> act) {
        for (Map.Entry<String, Supplier<ClauseCourt>> scene : SCENES.entrySet()) {
            refused(call + " behind " + scene.getKey(), code, scene.getValue(), act);
        }
    }

    /** Nothing at all is changed: status() does not tell of NONE, nor of what is answered well. */
    void leaves(String call, long answer, Supplier<ClauseCourt> scene, ToLongFunction<ClauseCourt> act) {
        changesNothing(call, answer, scene.get().status(), scene, act);
    }

    void leavesInScenes(String call, long answer, ToLongFunction<ClauseCourt> act) {
        for (Map.Entry<String, Supplier<ClauseCourt>> scene : SCENES.entrySet()) {
            leaves(call + " behind " + scene.getKey(), answer, scene.getValue(), act);
        }
    }

    void noneAnywhere(String call, ToLongFunction<ClauseCourt> act) {
        leaves(call + " of a new one", ClauseCourt.NONE, ClauseCourt::new, act);
        leavesInScenes(call, ClauseCourt.NONE, act);
    }

    void changesNothing(String call, long answer, int status, Supplier<ClauseCourt> scene, ToLongFunction<ClauseCourt> act) {
        ClauseCourt first = scene.get();
        due.is(where + call, answer, act.applyAsLong(first));
        due.is(where + "status() behind " + call, status, first.status());
        String[] without = pictures.computeIfAbsent(scene, Edge::pagesOf);
        for (int page = 0; page < Picture.PAGES; page++) {
            ClauseCourt with = scene.get();
            act.applyAsLong(with);
            due.is(where + "what must not have changed behind " + call, without[page], Picture.of(with, page));
        }
    }

    private static String[] pagesOf(Supplier<ClauseCourt> scene) {
        String[] pages = new String[Picture.PAGES];
        for (int page = 0; page < pages.length; page++) {
            pages[page] = Picture.of(scene.get(), page);
        }
        return pages;
    }

    void end() {
        due.end();
    }
}
