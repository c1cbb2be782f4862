/** Tells what packed bytes must inflate to. */
final class Packed {
    /** The content of what can't be inflated. */
    static final String CORRUPT = "-2";

    private Packed() {
    }

    /** Enters the bytes: the content is due, and its size and sum in the record. */
    static void due(Check check, String what, int[] packed, String want) {
        House h = new House(check, what);
        h.entry("x", House.DEFLATED, packed).archive(0);
        h.dueContent(0, want);
        int record = 2 + packed.length;
        boolean whole = !want.equals(CORRUPT);
        int sum = whole ? House.sum(House.bytes(want)) : 0;
        h.due("the first byte of the sum", h.x.peek(0, record + 3), sum & 255);
        h.due("the last byte of the sum", h.x.peek(0, record + 6), sum >>> 24);
        h.due("the size", h.x.peek(0, record + 7), whole ? want.length() : 0);
        h.due("the size's higher byte", h.x.peek(0, record + 8), 0);
    }

    /** Forges an entry, for more bytes than can be drafted; the record tells of the content. */
    static void dueForged(Check check, String what, int[] packed, String content, boolean whole) {
        Forge forge = new Forge().entry("x", House.DEFLATED, packed, House.bytes(content));
        forge.into(new House(check, what), 0).dueContent(0, whole ? content : CORRUPT);
    }
}
