import java.util.function.Supplier;
import java.util.function.ToIntFunction;

/**
 * Tests of single sentences of the document that name a boundary: each names its promise and the
 * sentence's words, and is listed with the number of its answers when it has run.
 */
final class Edges {
    static final int PROMISES = 27;

    private final Checks checks = new Checks("EdgesTest");
    private final int[] sentences = new int[PROMISES + 1];
    private String sentence = "";
    private int askedBefore;

    /** Begins the test of a sentence, and lists the one before it. */
    void sentence(int promise, String words) {
        list();
        sentences[promise]++;
        sentence = "promise " + promise + ", \"" + words + "\"";
        askedBefore = checks.asked();
    }

    private void list() {
        if (!sentence.isEmpty()) {
            System.out.println(sentence + ": " + (checks.asked() - askedBefore));
            checks.isTrue(sentence + " was tested", checks.asked() > askedBefore);
        }
        sentence = "";
    }

    void due(String what, long got, long want) {
        checks.due(sentence + ": " + what, got, want);
    }

    void isTrue(String what, boolean holds) {
        checks.isTrue(sentence + ": " + what, holds);
    }

    /** The call is refused, and all is as in a hall in which it was not made; what clash tells too. */
    void refused(String what, Supplier<VillageHall> scene, ToIntFunction<VillageHall> call, int error) {
        refused(what, scene, call, error, scene.get().clash());
    }

    /** The call is refused, and all is as in a hall in which it was not made, but what clash tells. */
    void refused(String what, Supplier<VillageHall> scene, ToIntFunction<VillageHall> call, int error, int clash) {
        due(what, call.applyAsInt(scene.get()), error);
        Supplier<VillageHall> afterIt = () -> after(scene, call);
        isTrue(what + " changes nothing", Telling.withHistory(afterIt).equals(Telling.withHistory(scene)));
        due("what clash tells after " + what, afterIt.get().clash(), clash);
    }

    /** The call only tells: all is as in a hall in which it was not made. */
    void onlyTells(String what, Supplier<VillageHall> scene, ToIntFunction<VillageHall> call) {
        refused(what, scene, call, call.applyAsInt(scene.get()));
    }

    private static VillageHall after(Supplier<VillageHall> scene, ToIntFunction<VillageHall> call) {
        VillageHall hall = scene.get();
        call.applyAsInt(hall);
        return hall;
    }

    void end() {
        list();
        for (int promise = 1; promise <= PROMISES; promise++) {
            checks.isTrue("the promise " + promise + " has a sentence that is tested", sentences[promise] > 0);
        }
        checks.end();
    }
}
