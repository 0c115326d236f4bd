/**
 * A sentence of the document, or a part of one, in its own words, with the test that fails if it is broken.
 * Promise 0 stands for what is said before the first promise. The tests use the face alone, and each object
 * for at most 512 calls.
 */
record Sentence(int promise, String words, Expect.Act test) {
}
