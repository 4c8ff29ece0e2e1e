import java.util.function.Consumer;
import java.util.function.Supplier;

/** Refused calls: the exception is the one that is due, and the dock is as if the call had not been made. */
final class Refused {
    private Refused() {
    }

    /** The recipe makes the same dock each time; one of two such docks gets the call. */
    static void call(String what, Supplier<Crossdockery> recipe, Class<? extends Exception> due,
            Consumer<Crossdockery> call) {
        Crossdockery refusing = recipe.get();
        Check.thrown(what, due, () -> call.accept(refusing));
        Picture.same(what + " changes nothing", Picture.of(refusing), Picture.of(recipe.get()));
        Crossdockery goingOn = recipe.get();
        Check.thrown(what, due, () -> call.accept(goingOn));
        Picture.same(what + " changes nothing for later", Picture.ofFuture(goingOn),
                Picture.ofFuture(recipe.get()));
    }

    /** Numbers that are out of a range: next to it, and as far from it as can be. */
    static int[] outside(int least, int most) {
        return new int[] {least - 1, most + 1, Integer.MIN_VALUE, Integer.MAX_VALUE};
    }
}
