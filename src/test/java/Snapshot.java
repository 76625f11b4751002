/** All that can be asked of a park, as one text. */
final class Snapshot {
    private Snapshot() {
    }

    static String of(Coasterland park) {
        StringBuilder text = new StringBuilder();
        for (int ride = 0; ride < 4; ride++) {
            try {
                park.cycles(ride);
            } catch (IndexOutOfBoundsException e) {
                break;
            }
            addRide(text, park, ride);
        }
        for (int guest = 0; guest < park.guests(); guest++) {
            text.append(" guest ").append(guest).append(park.whereIs(guest));
            for (char what : "mhnr".toCharArray()) {
                text.append(' ').append(park.get(guest, what));
            }
        }
        text.append(" books ").append(park.ticks()).append(' ').append(park.guests()).append(' ')
                .append(park.till()).append(' ').append(park.allMoney()).append(' ').append(park.isSound());
        return text.toString();
    }

    private static void addRide(StringBuilder text, Coasterland park, int ride) {
        text.append(" ride ").append(ride).append(' ').append(park.cycles(ride)).append(park.hasTripped(ride))
                .append(park.keeps(ride));
        for (char queue : "lsr".toCharArray()) {
            text.append(' ').append(park.waiting(ride, queue));
        }
        for (int block = 0; block < 12; block++) {
            try {
                text.append(park.isHeld(ride, block) ? " H" : " -").append(park.sees(ride, block, 0))
                        .append(park.sees(ride, block, 1)).append(park.force(ride, block));
            } catch (IndexOutOfBoundsException e) {
                break;
            } catch (UnsupportedOperationException e) {
                text.append('?');
            }
        }
        for (int train = 0; train < 4; train++) {
            try {
                text.append(" train ").append(park.blockOf(ride, train)).append(park.stateOf(ride, train))
                        .append(park.energy(ride, train)).append('/').append(park.aboard(ride, train));
            } catch (IndexOutOfBoundsException e) {
                break;
            }
        }
    }
}
