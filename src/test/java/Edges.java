import java.util.function.IntFunction;
import java.util.function.ObjIntConsumer;
import java.util.function.Supplier;

/** Tests that are the same for every call with an argument of a kind: the last allowed and the first that is not. */
final class Edges {
    private static final String NO_PAPER = "there is no such paper";

    private Edges() {
    }

    /** An argument from least to most, of which the sentence told speaks; the sentence refused names what is not. */
    static void range(Book book, String name, String told, String refused, int least, int most,
            Supplier<PaperKeeper> made, ObjIntConsumer<PaperKeeper> call) {
        allowed(book, told, name + " " + least + " is the least that is allowed", made, call, least);
        allowed(book, told, name + " " + most + " is the last that is allowed", made, call, most);
        for (int wrong : new int[] {least - 1, most + 1, Integer.MIN_VALUE, Integer.MAX_VALUE}) {
            book.refused(refused, name + " " + wrong, Expect.ARGUMENT, made, x -> call.accept(x, wrong));
        }
    }

    private static void allowed(Book book, String told, String name, Supplier<PaperKeeper> made,
            ObjIntConsumer<PaperKeeper> call, int value) {
        book.test(told, name, () -> {
            PaperKeeper x = made.get();
            Expect.passes("the call", () -> call.accept(x, value));
        });
    }

    /** A paper's number; the objects are made with as many papers as asked for, each of which allows the call. */
    static void paper(Book book, IntFunction<PaperKeeper> made, ObjIntConsumer<PaperKeeper> call) {
        paper(book, new int[] {1, 3, 8}, made, call);
    }

    static void paper(Book book, int[] counts, IntFunction<PaperKeeper> made, ObjIntConsumer<PaperKeeper> call) {
        for (int count : counts) {
            int last = count - 1;
            allowed(book, NO_PAPER, "the first of " + count + " papers is there", () -> made.apply(count), call, 0);
            allowed(book, NO_PAPER, "the last of " + count + " papers is there", () -> made.apply(count), call, last);
        }
        for (int count : new int[] {0, 1, 3, 8}) {
            refused(book, "paper " + count + " of " + count + " papers", made, call, count, count);
            refused(book, "paper -1 of " + count + " papers", made, call, count, -1);
        }
        refused(book, "paper 7 of 3 papers", made, call, 3, 7);
        refused(book, "the least number there is", made, call, 3, Integer.MIN_VALUE);
        refused(book, "the greatest number there is", made, call, 3, Integer.MAX_VALUE);
    }

    private static void refused(Book book, String name, IntFunction<PaperKeeper> made,
            ObjIntConsumer<PaperKeeper> call, int count, int wrong) {
        book.refused(NO_PAPER, name, Expect.INDEX, () -> made.apply(count), x -> call.accept(x, wrong));
    }
}
