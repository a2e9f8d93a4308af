/** Promise 1, and what every call answers without a flight. */
final class NewObjectTest {
    public static void main(String[] args) {
        Script.run("accounts of a new object", """
            account 0 = 0
            account 1 = 0
            account 2 = 0
            account 3 = 0
            account 4 = 0
            account 5 = 0
            wasteShare = 0.0
            wasteBits = 0
            costBits = 0
            """);
        Script.run("reports without a flight", """
            count 0 = 0
            count 1 = 0
            count 2 = 0
            count 3 = 0
            count 4 = 0
            count 5 = 0
            count 6 = 0
            count 7 = 0
            count 8 = 0
            count 9 = 0
            count 10 = 0
            count 11 = 0
            outlook 0 = 0
            outlook 1 = 0
            outlook 2 = 0
            outlook 3 = 0
            outlook 4 = 0
            outlook 5 = 0
            outlook 6 = throws.IllegalArgumentException
            outlook -1 = throws.IllegalArgumentException
            errorCode = 0
            errorPosition = -1
            cabin 0 99 = throws.NoSuchElementException
            meal 0 99 = throws.NoSuchElementException
            passenger 0 99 = throws.NoSuchElementException
            trolley 0 99 = throws.NoSuchElementException
            held 0 0 = throws.NoSuchElementException
            topUpAt 0 99 = throws.IndexOutOfBoundsException
            mealFor 0 = throws.NoSuchElementException
            writeTrolley 0 = throws.NoSuchElementException
            outputByte 0 = throws.IndexOutOfBoundsException
            undo = throws.IllegalStateException
            reason = 0
            """);
        Script.run("acts without a flight", """
            board 0 256 5 = throws.NoSuchElementException
            change 0 0 = throws.NoSuchElementException
            leave 0 = throws.NoSuchElementException
            setNeeds 0 256 = throws.NoSuchElementException
            store 0 0 = throws.NoSuchElementException
            unload 0 0 = throws.NoSuchElementException
            topUp 0 0 = throws.NoSuchElementException
            reason = 0
            advance 0 = throws.IllegalArgumentException
            reason = 0
            advance 1 = throws.IllegalStateException
            reason = 1
            """);
        Script.run("an order without a flight", """
            loadOrder = throws.IllegalStateException
            reason = 1
            good = 0
            reason = 0
            """);
        Script.run("a service without a flight", """
            serve = throws.IllegalStateException
            reason = 1
            account 5 = 0
            """);
        Script.end();
    }
}
