/** All that an executive tells, as a text, so that two executives can be set side by side. */
final class Look {
    private final BatchExecutive x;
    private final StringBuilder text = new StringBuilder();

    private Look(BatchExecutive x) {
        this.x = x;
    }

    static String at(BatchExecutive x) {
        return withoutHistory(x) + " states " + x.count(14);
    }

    static String withoutHistory(BatchExecutive x) {
        Look look = new Look(x);
        look.counts();
        look.units();
        look.recipes();
        look.batches();
        look.events();
        return look.text.toString();
    }

    private void add(int answer) {
        text.append(' ').append(answer);
    }

    private void counts() {
        text.append(" counts");
        for (int what = 0; what <= 17; what++) {
            if (what != 14) {
                add(x.count(what));
            }
        }
        add(x.fault(0));
        add(x.fault(1));
    }

    private void units() {
        text.append(" units");
        for (int unit = 0; unit < x.count(0); unit++) {
            for (int what = 0; what <= 6; what++) {
                add(x.unitInfo(unit, what));
            }
        }
        for (int piece = 0; piece <= 2; piece++) {
            add(x.shared(piece));
        }
    }

    private void recipes() {
        text.append(" recipes");
        for (int recipe = 0; recipe <= 5; recipe++) {
            int versions = x.versions(recipe);
            add(versions);
            for (int phase = 0; versions > 0 && x.phase(recipe, versions, phase, 0) >= 0; phase++) {
                for (int what = 0; what <= 4; what++) {
                    add(x.phase(recipe, versions, phase, what));
                }
            }
        }
    }

    private void batches() {
        text.append(" batches");
        for (int batch = 0; batch < x.count(3); batch++) {
            for (int what = 0; what <= 11; what++) {
                add(x.batchInfo(batch, what));
            }
            add(x.waits(batch));
            add(x.ticksTo(batch));
        }
        for (int place = 0; x.inOrder(place) >= 0; place++) {
            add(x.inOrder(place));
        }
    }

    private void events() {
        text.append(" events");
        for (int index = 0; index < x.count(13); index++) {
            for (int what = 0; what <= 2; what++) {
                add(x.event(index, what));
            }
        }
    }
}
