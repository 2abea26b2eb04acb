/** Promises 1 to 28, sentence by sentence: the boundary cases that the document names, each in a test of its own. */
public final class SentencesTest {
    public static void main(String[] args) {
        Book book = new Book();
        Promise01.tests(book);
        Promise02.tests(book);
        Promise03.tests(book);
        Promise04.tests(book);
        Promise05.tests(book);
        Promise06.tests(book);
        Promise07.tests(book);
        Promise08.tests(book);
        Promise09.tests(book);
        Promise10.tests(book);
        Promise11.tests(book);
        Promise12.tests(book);
        Promise13.tests(book);
        Promise14.tests(book);
        Promise15.tests(book);
        Promise16.tests(book);
        Promise17.tests(book);
        Promise18.tests(book);
        Promise19.tests(book);
        Promise20.tests(book);
        Promise21.tests(book);
        Promise22.tests(book);
        Promise23.tests(book);
        Promise24.tests(book);
        Promise25.tests(book);
        Promise26.tests(book);
        Promise27.tests(book);
        Promise28.tests(book);
        book.close();
        Expect.close("SentencesTest");
    }
}
