/** What all slots of an object hold, read by calls alone: few, if the sets have few patches. */
final class Sight {
    private Sight() { }

    /** A slot's patches, as "key/level" in the order in which they are told. */
    static String ofSlot(SevenKeys x, int slot) {
        StringBuilder text = new StringBuilder();
        int patches = x.about(slot, 1);
        for (int i = 0; i < patches; i++) {
            text.append(i == 0 ? "" : " ").append(x.packed(slot, i, 0)).append('/').append(x.packed(slot, i, 1));
        }
        return text.toString();
    }

    static String ofAll(SevenKeys x) {
        StringBuilder text = new StringBuilder();
        for (int slot = 0; slot < 4; slot++) {
            text.append(ofSlot(x, slot)).append(" | ");
        }
        return text.append("kept ").append(x.count(2)).toString();
    }
}
