/** All that a player answers without being changed by it, as one text. */
final class Picture {
    private Picture() {
    }

    static String of(FilmPlayer x) {
        StringBuilder text = new StringBuilder();
        text.append("tick ").append(x.tick()).append(" waiting ").append(x.waiting());
        text.append(" lost ").append(x.lost()).append(" polled ").append(x.isPolled());
        text.append(" next ").append(x.next()).append(" turn ").append(x.turn());
        text.append(" fill ").append(x.fill()).append(" shown ").append(x.shown());
        text.append(" couldBe ").append(x.couldBe()).append(" gap ").append(x.gap());
        text.append(" had ");
        for (int packet = 0; packet < 300; packet++) {
            text.append(x.has(packet) ? '1' : '0');
        }
        text.append(" whole ");
        for (int frame = 0; frame < 100; frame++) {
            text.append(x.isWhole(frame) ? '1' : '0');
        }
        text.append(" fates ");
        for (int frame = 0; frame < 100; frame++) {
            text.append(x.fate(frame));
        }
        text.append(" asked ").append(x.asked()).append(':');
        for (int k = 0; k < x.asked(); k++) {
            text.append(' ').append(x.askedAt(k));
        }
        return text.toString();
    }
}
