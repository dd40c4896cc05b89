/** Something that answers the calls of the document by their names: the class itself, or the model of it. */
interface Subject {
    int call(String name, int... arguments);
}
