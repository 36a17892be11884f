import java.util.List;

/** Each sentence of the document that names a boundary case has a test of its own, which quotes it. */
public final class BoundaryTest {
    // Of the terms, what names no boundary case.
    private static final List<String> NEEDLESS = List.of("A key has one lease.", "says: ---- guests.",
        "says: ---- the inn, ghosts.", "says: ---- messages, ticks.", "says: ---- texts.",
        "says: ---- snapshots, undo.");

    public static void main(String[] args) {
        GuestBoundaries.all();
        RoomBoundaries.all();
        AnswerBoundaries.all();
        RowBoundaries.all();
        TickBoundaries.all();
        TextBoundaries.all();
        UndoBoundaries.all();
        AccountBoundaries.all();
        RefusedCalls.all();
        Doc.dueAllQuoted(NEEDLESS);
        Check.finish("BoundaryTest");
    }
}
