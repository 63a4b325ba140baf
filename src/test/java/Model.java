import java.util.ArrayDeque;
import java.util.ArrayList;
import java.util.Comparator;
import java.util.Deque;
import java.util.List;
import java.util.regex.Matcher;
import java.util.regex.Pattern;

/**
 * The document once more, written in another way (whole copies, lists, regular expressions), to be
 * set beside the program on long walks. It is slow and it shares no code with the program.
 */
final class Model {
    static final int BAD = -1;
    static final int NO = -2;
    static final int LIMIT = -3;
    static final int NONE = -4;

    record Phase(int kind, int duration, int piece, int percent, boolean mark) {
    }

    record Event(int tick, int batch, int what) {
    }

    static final class Unit {
        int kind;
        int capacity;
        int batch = -1;
        boolean broken;
        int cleaning;
        int worked;

        boolean free() {
            return batch < 0 && !broken && cleaning == 0;
        }
    }

    static final class Batch {
        int number;
        int recipe;
        int version;
        List<Phase> phases;
        int size;
        int priority;
        int before;
        int state;
        int phase;
        int done;
        float amount;

        boolean active() {
            return state == 1 || state == 3;
        }

        boolean ended() {
            return state >= 4;
        }
    }

    static final class World {
        List<Unit> units = new ArrayList<>();
        int[] pieces = {-1, -1, -1};
        List<List<List<Phase>>> recipes = new ArrayList<>();
        List<Batch> batches = new ArrayList<>();
        List<Event> journal = new ArrayList<>();
        int ticks;
        int cleaning = 2;

        World() {
            for (int recipe = 0; recipe < 6; recipe++) {
                recipes.add(new ArrayList<>());
            }
        }

        World copy() {
            World copy = new World();
            for (Unit unit : units) {
                Unit other = new Unit();
                other.kind = unit.kind;
                other.capacity = unit.capacity;
                other.batch = unit.batch;
                other.broken = unit.broken;
                other.cleaning = unit.cleaning;
                other.worked = unit.worked;
                copy.units.add(other);
            }
            copy.pieces = pieces.clone();
            for (int recipe = 0; recipe < 6; recipe++) {
                copy.recipes.get(recipe).addAll(recipes.get(recipe));
            }
            for (Batch batch : batches) {
                Batch other = new Batch();
                other.number = batch.number;
                other.recipe = batch.recipe;
                other.version = batch.version;
                other.phases = batch.phases;
                other.size = batch.size;
                other.priority = batch.priority;
                other.before = batch.before;
                other.state = batch.state;
                other.phase = batch.phase;
                other.done = batch.done;
                other.amount = batch.amount;
                copy.batches.add(other);
            }
            copy.journal.addAll(journal);
            copy.ticks = ticks;
            copy.cleaning = cleaning;
            return copy;
        }

        void tell(int batch, int what) {
            journal.add(0, new Event(ticks, batch, what));
            while (journal.size() > 40) {
                journal.remove(journal.size() - 1);
            }
        }

        Unit unitOf(Batch batch) {
            for (Unit unit : units) {
                if (unit.batch == batch.number) {
                    return unit;
                }
            }
            return null;
        }

        int inState(int state) {
            return (int) batches.stream().filter(b -> b.state == state).count();
        }

        List<Batch> order() {
            List<Batch> order = new ArrayList<>(batches.stream().filter(Batch::active).toList());
            order.sort(Comparator.comparingInt((Batch b) -> -b.priority).thenComparingInt(b -> b.number));
            return order;
        }

        void dropPieces(Batch batch) {
            for (int piece = 0; piece < 3; piece++) {
                if (pieces[piece] == batch.number) {
                    pieces[piece] = -1;
                }
            }
        }

        void dropUnit(Batch batch) {
            Unit unit = unitOf(batch);
            if (unit != null) {
                unit.batch = -1;
                unit.cleaning = cleaning;
            }
        }

        void end(Batch batch, int state, int event) {
            dropPieces(batch);
            dropUnit(batch);
            batch.state = state;
            tell(batch.number, event);
        }

        Unit freeUnit(Batch batch) {
            Phase phase = batch.phases.get(batch.phase);
            return units.stream()
                    .filter(u -> u.free() && u.kind == phase.kind() && u.capacity >= batch.size)
                    .findFirst().orElse(null);
        }

        /** Goes through one batch and returns the reason for which it waited. */
        int go(Batch batch) {
            Phase phase = batch.phases.get(batch.phase);
            if (batch.phase == 0 && batch.done == 0 && batch.before >= 0 && batches.get(batch.before).state != 6) {
                return 1;
            }
            if (unitOf(batch) == null) {
                Unit unit = freeUnit(batch);
                if (unit == null) {
                    return 2;
                }
                unit.batch = batch.number;
                tell(batch.number, 0);
            }
            if (phase.piece() >= 0 && pieces[phase.piece()] != batch.number) {
                if (pieces[phase.piece()] >= 0) {
                    return 3;
                }
                pieces[phase.piece()] = batch.number;
            }
            batch.done++;
            unitOf(batch).worked++;
            if (batch.done == phase.duration()) {
                endPhase(batch, phase);
            }
            return 0;
        }

        void endPhase(Batch batch, Phase phase) {
            dropPieces(batch);
            batch.amount = batch.amount * (float) phase.percent() / (float) 100;
            batch.phase++;
            batch.done = 0;
            tell(batch.number, 1);
            boolean none = batch.phase == batch.phases.size();
            if (none || batch.phases.get(batch.phase).kind() != phase.kind()) {
                dropUnit(batch);
            }
            if (none) {
                batch.state = 6;
                tell(batch.number, 6);
            } else if (batch.state == 3) {
                dropUnit(batch);
                batch.state = 4;
                tell(batch.number, 4);
            }
        }

        void clean() {
            for (Unit unit : units) {
                unit.cleaning = Math.max(0, unit.cleaning - 1);
            }
        }

        void tick() {
            clean();
            for (Batch batch : order()) {
                go(batch);
            }
            ticks++;
        }
    }

    World now = new World();
    final Deque<World> past = new ArrayDeque<>();
    String text = "";

    private void keep() {
        past.addLast(now.copy());
        if (past.size() > 4) {
            past.removeFirst();
        }
    }

    private boolean noBatch(int batch) {
        return batch < 0 || batch >= now.batches.size();
    }

    private boolean noUnit(int unit) {
        return unit < 0 || unit >= now.units.size();
    }

    int unit(int kind, int capacity) {
        if (kind < 0 || kind > 3 || capacity < 1 || capacity > 10000) {
            return BAD;
        }
        if (now.units.size() == 8) {
            return LIMIT;
        }
        keep();
        Unit unit = new Unit();
        unit.kind = kind;
        unit.capacity = capacity;
        now.units.add(unit);
        return now.units.size() - 1;
    }

    int fail(int number) {
        if (noUnit(number)) {
            return BAD;
        }
        if (now.units.get(number).broken) {
            return NO;
        }
        keep();
        Unit unit = now.units.get(number);
        unit.broken = true;
        if (unit.batch < 0 || !now.batches.get(unit.batch).active()) {
            return NONE;
        }
        Batch batch = now.batches.get(unit.batch);
        batch.state = 2;
        now.dropPieces(batch);
        now.tell(batch.number, 2);
        return batch.number;
    }

    int repair(int number) {
        if (noUnit(number)) {
            return BAD;
        }
        if (!now.units.get(number).broken) {
            return NO;
        }
        keep();
        now.units.get(number).broken = false;
        return (int) now.units.stream().filter(u -> u.broken).count();
    }

    int unitInfo(int number, int what) {
        if (noUnit(number) || what < 0 || what > 6) {
            return BAD;
        }
        Unit unit = now.units.get(number);
        int[] answers = {unit.kind, unit.capacity, unit.batch < 0 ? NONE : unit.batch, unit.broken ? 1 : 0,
            unit.cleaning, unit.worked, unit.free() ? 1 : 0};
        return answers[what];
    }

    int shared(int piece) {
        if (piece < 0 || piece > 2) {
            return BAD;
        }
        return now.pieces[piece] < 0 ? NONE : now.pieces[piece];
    }

    int setCleaning(int ticks) {
        if (ticks < 0 || ticks > 30) {
            return BAD;
        }
        keep();
        int previous = now.cleaning;
        now.cleaning = ticks;
        return previous;
    }

    int recipe(int recipe) {
        if (recipe < 0 || recipe > 5) {
            return BAD;
        }
        if (fault(0) != NONE) {
            return NO;
        }
        if (now.recipes.get(recipe).size() == 9) {
            return LIMIT;
        }
        keep();
        now.recipes.get(recipe).add(phasesOf(text));
        return now.recipes.get(recipe).size();
    }

    int versions(int recipe) {
        return recipe < 0 || recipe > 5 ? BAD : now.recipes.get(recipe).size();
    }

    int phase(int recipe, int version, int phase, int what) {
        if (recipe < 0 || recipe > 5 || version < 1 || version > now.recipes.get(recipe).size()
                || phase < 0 || what < 0 || what > 4) {
            return BAD;
        }
        List<Phase> phases = now.recipes.get(recipe).get(version - 1);
        if (phase >= phases.size()) {
            return NONE;
        }
        Phase p = phases.get(phase);
        int[] answers = {p.kind(), p.duration(), p.piece() < 0 ? NONE : p.piece(), p.percent(), p.mark() ? 1 : 0};
        return answers[what];
    }

    int batch(int recipe, int size, int priority, int before) {
        if (recipe < 0 || recipe > 5 || size < 1 || size > 10000 || priority < 0 || priority > 9
                || (before != -1 && noBatch(before))) {
            return BAD;
        }
        List<List<Phase>> versions = now.recipes.get(recipe);
        if (versions.isEmpty()) {
            return NO;
        }
        if (before >= 0 && (now.batches.get(before).state == 4 || now.batches.get(before).state == 5)) {
            return NO;
        }
        if (now.batches.size() == 12) {
            return LIMIT;
        }
        keep();
        Batch batch = new Batch();
        batch.number = now.batches.size();
        batch.recipe = recipe;
        batch.version = versions.size();
        batch.phases = versions.get(versions.size() - 1);
        batch.size = size;
        batch.priority = priority;
        batch.before = before;
        batch.amount = size;
        now.batches.add(batch);
        return batch.number;
    }

    int start(int number) {
        if (noBatch(number)) {
            return BAD;
        }
        if (now.batches.get(number).state != 0) {
            return NO;
        }
        keep();
        now.batches.get(number).state = 1;
        return now.inState(1);
    }

    int hold(int number) {
        if (noBatch(number)) {
            return BAD;
        }
        if (!now.batches.get(number).active()) {
            return NO;
        }
        keep();
        Batch batch = now.batches.get(number);
        batch.state = 2;
        now.dropPieces(batch);
        now.tell(number, 2);
        return now.inState(2);
    }

    int restart(int number) {
        if (noBatch(number)) {
            return BAD;
        }
        Batch batch = now.batches.get(number);
        Unit unit = now.unitOf(batch);
        if (batch.state != 2 || (unit != null && unit.broken)) {
            return NO;
        }
        keep();
        batch.state = 1;
        Phase phase = batch.phases.get(batch.phase);
        if (phase.mark()) {
            batch.done = 0;
        }
        now.tell(number, 3);
        return phase.duration() - batch.done;
    }

    int stop(int number) {
        if (noBatch(number)) {
            return BAD;
        }
        Batch batch = now.batches.get(number);
        if (batch.state != 1 && batch.state != 2) {
            return NO;
        }
        keep();
        if (batch.state == 1 && batch.done > 0) {
            batch.state = 3;
        } else {
            now.end(batch, 4, 4);
        }
        return batch.state;
    }

    int abort(int number) {
        if (noBatch(number)) {
            return BAD;
        }
        if (now.batches.get(number).ended()) {
            return NO;
        }
        keep();
        List<Integer> doomed = new ArrayList<>(List.of(number));
        for (int at = 0; at < doomed.size(); at++) {
            for (Batch other : now.batches) {
                if (other.before == doomed.get(at) && !other.ended() && !doomed.contains(other.number)) {
                    doomed.add(other.number);
                }
            }
        }
        doomed.subList(1, doomed.size()).sort(null);
        for (int each : doomed) {
            now.end(now.batches.get(each), 5, 5);
        }
        return doomed.size();
    }

    int priority(int number, int value) {
        if (noBatch(number) || value < 0 || value > 9) {
            return BAD;
        }
        keep();
        int previous = now.batches.get(number).priority;
        now.batches.get(number).priority = value;
        return previous;
    }

    int batchInfo(int number, int what) {
        if (noBatch(number) || what < 0 || what > 11) {
            return BAD;
        }
        Batch batch = now.batches.get(number);
        boolean complete = batch.state == 6;
        Unit unit = now.unitOf(batch);
        int[] answers = {batch.recipe, batch.version, batch.size, batch.priority,
            batch.before < 0 ? NONE : batch.before, batch.state,
            complete ? NONE : batch.phase,
            complete ? NONE : batch.phases.get(batch.phase).duration() - batch.done,
            unit == null ? NONE : now.units.indexOf(unit),
            !complete && batch.done > 0 ? 1 : 0,
            Float.floatToIntBits(batch.amount), (int) batch.amount};
        return answers[what];
    }

    int waits(int number) {
        if (noBatch(number)) {
            return BAD;
        }
        if (!now.batches.get(number).active()) {
            return NONE;
        }
        World next = now.copy();
        next.clean();
        return next.go(next.batches.get(number));
    }

    int inOrder(int place) {
        if (place < 0) {
            return BAD;
        }
        List<Batch> order = now.order();
        return place < order.size() ? order.get(place).number : NONE;
    }

    int run(int ticks) {
        if (ticks < 1 || ticks > 500) {
            return BAD;
        }
        if (now.ticks > 50000 - ticks) {
            return LIMIT;
        }
        keep();
        int complete = now.inState(6);
        for (int tick = 0; tick < ticks; tick++) {
            now.tick();
        }
        return now.inState(6) - complete;
    }

    int ticksTo(int number) {
        if (noBatch(number)) {
            return BAD;
        }
        World then = now.copy();
        for (int ticks = 0; ticks <= 2000; ticks++) {
            if (then.batches.get(number).state == 6) {
                return ticks;
            }
            then.tick();
        }
        return NONE;
    }

    int count(int what) {
        if (what < 0 || what > 17) {
            return BAD;
        }
        if (what >= 4 && what <= 10) {
            return now.inState(what - 4);
        }
        return switch (what) {
            case 0 -> now.units.size();
            case 1 -> (int) now.units.stream().filter(u -> u.broken).count();
            case 2 -> (int) now.units.stream().filter(Unit::free).count();
            case 3 -> now.batches.size();
            case 11 -> now.ticks;
            case 12 -> now.cleaning;
            case 13 -> now.journal.size();
            case 14 -> past.size();
            case 15 -> text.length();
            case 16 -> now.units.stream().mapToInt(u -> u.worked).sum();
            default -> (int) java.util.Arrays.stream(now.pieces).filter(p -> p < 0).count();
        };
    }

    int event(int index, int what) {
        if (index < 0 || what < 0 || what > 2) {
            return BAD;
        }
        if (index >= now.journal.size()) {
            return NONE;
        }
        Event event = now.journal.get(index);
        return what == 0 ? event.tick() : what == 1 ? event.batch() : event.what();
    }

    int undo() {
        if (past.isEmpty()) {
            return NO;
        }
        now = past.removeLast();
        return past.size();
    }

    int type(int character) {
        if (character < 32 || character > 126) {
            return BAD;
        }
        if (text.length() == 100) {
            return LIMIT;
        }
        text += (char) character;
        return text.length();
    }

    int clearText() {
        int length = text.length();
        text = "";
        return length;
    }

    int fault(int what) {
        if (what < 0 || what > 1) {
            return BAD;
        }
        int[] fault = faultOf(text);
        return fault == null ? NONE : fault[what];
    }

    private static final Pattern TEXT = Pattern.compile("([mrfp][0-9]{1,2}(s[0-2])?(y[0-9]{1,3})?a?;)+");
    private static final Pattern NUMBER = Pattern.compile("([mrfpy])([0-9]+)");
    private static final Pattern PHASE =
            Pattern.compile("([mrfp])([0-9]+)(?:s([0-2]))?(?:y([0-9]+))?(a?);");

    /** The first fault that a reader from left to right comes upon, or null. */
    static int[] faultOf(String text) {
        for (int length = 0; length <= text.length(); length++) {
            String read = text.substring(0, length);
            int[] range = rangeFault(read, length == text.length() ? 'x' : text.charAt(length));
            if (range != null) {
                return range;
            }
            if (length < text.length()) {
                Matcher longer = TEXT.matcher(text.substring(0, length + 1));
                if (!longer.matches() && !longer.hitEnd()) {
                    return new int[] {length, 1};
                }
                boolean letter = "mrfp".indexOf(text.charAt(length)) >= 0;
                if (letter && read.chars().filter(c -> c == ';').count() == 8) {
                    return new int[] {length, 4};
                }
            }
        }
        return TEXT.matcher(text).matches() ? null : new int[] {text.length(), 3};
    }

    /** The fault of a number that ends where the text read so far ends, if the next one is no digit of it. */
    private static int[] rangeFault(String read, char next) {
        Matcher number = NUMBER.matcher(read);
        int from = -1;
        boolean percent = false;
        String digits = "";
        while (number.find()) {
            from = number.start(2);
            percent = number.group(1).equals("y");
            digits = number.group(2);
        }
        if (from < 0 || from + digits.length() != read.length()) {
            return null;
        }
        int most = percent ? 3 : 2;
        boolean ends = digits.length() == most || next < '0' || next > '9';
        int value = Integer.parseInt(digits);
        return ends && (value < 1 || value > (percent ? 100 : 99)) ? new int[] {from, 2} : null;
    }

    static List<Phase> phasesOf(String text) {
        List<Phase> phases = new ArrayList<>();
        Matcher phase = PHASE.matcher(text);
        while (phase.find()) {
            phases.add(new Phase("mrfp".indexOf(phase.group(1)), Integer.parseInt(phase.group(2)),
                    phase.group(3) == null ? -1 : Integer.parseInt(phase.group(3)),
                    phase.group(4) == null ? 100 : Integer.parseInt(phase.group(4)),
                    !phase.group(5).isEmpty()));
        }
        return phases;
    }
}
