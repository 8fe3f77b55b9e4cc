import java.lang.reflect.InvocationTargetException;
import java.lang.reflect.Method;
import java.util.Arrays;
import java.util.Comparator;

/** A call of the face by its name and what it is told. */
final class Call {
    private final String name;
    private final Object[] told;

    Call(String name, Object... told) {
        this.name = name;
        this.told = told;
    }

    /** The same call with another value at one place. */
    Call with(int place, Object value) {
        Object[] changed = told.clone();
        changed[place] = value;
        return new Call(name, changed);
    }

    int number(int place) {
        return (Integer) told[place];
    }

    /** The answer as a text, or "throws." with the exception's name. */
    String answer(Object object) {
        Method method = Arrays.stream(object.getClass().getMethods()).filter(m -> m.getName().equals(name))
                .min(Comparator.comparing(Method::getName)).orElseThrow();
        try {
            return String.valueOf(method.invoke(object, told));
        } catch (InvocationTargetException e) {
            return "throws." + Check.nameOf(e.getCause());
        } catch (IllegalAccessException e) {
            throw new IllegalStateException(e);
        }
    }

    @Override
    public String toString() {
        return name + Arrays.toString(told);
    }
}
