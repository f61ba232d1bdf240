import java.lang.reflect.InvocationTargetException;
import java.util.Arrays;

/** One call of the face by its name, for the program as for the model. */
record Step(String name, int... args) {
    /** What the call answers, or which exception it throws. */
    String on(Object target) {
        Class<?>[] types = new Class<?>[args.length];
        Arrays.fill(types, int.class);
        Object[] values = Arrays.stream(args).boxed().toArray();
        try {
            return String.valueOf(target.getClass().getDeclaredMethod(name, types).invoke(target, values));
        } catch (InvocationTargetException e) {
            return Check.named(e.getCause().getClass());
        } catch (ReflectiveOperationException e) {
            throw new IllegalStateException("there is no call " + this, e);
        }
    }

    @Override
    public String toString() {
        return name + Arrays.toString(args).replace('[', '(').replace(']', ')');
    }
}
