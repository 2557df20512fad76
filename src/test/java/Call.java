/** A call, to be made on an object that is given later. */
interface Call {
    int on(NineNames x);
}
