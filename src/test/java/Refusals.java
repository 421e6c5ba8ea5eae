import java.util.List;
import java.util.function.Consumer;
import java.util.function.Predicate;
import java.util.function.Supplier;
import java.util.function.ToIntFunction;

/** Tells a call that is refused to one of two like books: both must go on answering alike. */
final class Refusals {
    private final Check check;
    private final Supplier<HangarBook> books;

    Refusals(Check check, Supplier<HangarBook> books) {
        this.check = check;
        this.books = books;
    }

    void no(String call, Predicate<HangarBook> refused) {
        leavesAll(call, x -> check.no(call, refused.test(x)));
    }

    void badArgument(String call, Consumer<HangarBook> refused) {
        leavesAll(call, x -> check.badArgument(call, () -> refused.accept(x)));
    }

    void badState(String call, Consumer<HangarBook> refused) {
        leavesAll(call, x -> check.badState(call, () -> refused.accept(x)));
    }

    void same(String call, ToIntFunction<HangarBook> asked, int want) {
        leavesAll(call, x -> check.same(call, asked.applyAsInt(x), want));
    }

    private void leavesAll(String call, Consumer<HangarBook> refused) {
        HangarBook told = books.get();
        HangarBook twin = books.get();
        // A program may keep what it worked out: asked before, it has something to spoil.
        check.sameText(call + ", before it", firstOther(Answers.asked(told), Answers.asked(twin)), "alike");
        refused.accept(told);
        check.sameText(call + ", after it",
                firstOther(Answers.askedAndTried(told), Answers.askedAndTried(twin)), "alike");
    }

    private static String firstOther(List<String> got, List<String> want) {
        for (int i = 0; i < want.size(); i++) {
            if (!got.get(i).equals(want.get(i))) {
                return got.get(i) + " (else " + want.get(i) + ")";
            }
        }
        return "alike";
    }
}
