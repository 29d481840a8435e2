/** A call of the face as a thing of its own: it can be told, kept, and made on any object. */
final class Call {
    /** The answer told for a call that throws the document's ArithmeticException. */
    static final long THROWS = Long.MIN_VALUE;

    /** How a call is made; a boolean counts 1 or 0. */
    interface Made {
        long on(FacetRows x);
    }

    private final Made made;
    private final String name;
    private final Object[] arguments;

    Call(Made made, String name, Object... arguments) {
        this.made = made;
        this.name = name;
        this.arguments = arguments;
    }

    long on(FacetRows x) {
        try {
            return made.on(x);
        } catch (ArithmeticException e) {
            if (Due.isOfTheMachine(e)) {
                throw new IllegalStateException(this + " let the machine throw", e);
            }
            return THROWS;
        }
    }

    @Override
    public String toString() {
        StringBuilder told = new StringBuilder(name).append('(');
        for (int i = 0; i < arguments.length; i++) {
            told.append(i == 0 ? "" : ", ").append(arguments[i]);
        }
        return told.append(')').toString();
    }
}
