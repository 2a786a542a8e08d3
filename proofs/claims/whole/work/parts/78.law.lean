/-! every call is answered alike -/
theorem Oz_thing {n z : Nat} (hn : 1000 ≤ n) : Ok_thing n z (RelB z (z + 75)) := fun V R G U h hI a1 a2 a3 a4 => ok_thing' h a1 a2 a3 a4
theorem Oz_thingOf {n z : Nat} (hn : 1000 ≤ n) : Ok_thingOf n z (RelB z (z + 75)) := fun V R G U h hI a1 a2 => ok_thingOf' hn h a1 a2
theorem Oz_change {n z : Nat} (hn : 1000 ≤ n) : Ok_change n z (RelB z (z + 75)) := fun V R G U h hI a1 a2 a3 => ok_change' h hI a1 a2 a3
theorem Oz_remake {n z : Nat} (hn : 1000 ≤ n) : Ok_remake n z (RelB z (z + 75)) := fun V R G U h hI a1 a2 => ok_remake' h hI a1 a2
theorem Oz_iron {n z : Nat} (hn : 1000 ≤ n) : Ok_iron n z (RelB z (z + 75)) := fun V R G U h hI a1 a2 => ok_iron' h hI a1 a2
theorem Oz_board {n z : Nat} (hn : 1000 ≤ n) : Ok_board n z (RelB z (z + 75)) := fun V R G U h hI a1 a2 a3 => ok_board' h hI a1 a2 a3
theorem Oz_boardOf {n z : Nat} (hn : 1000 ≤ n) : Ok_boardOf n z (RelB z (z + 75)) := fun V R G U h hI a1 a2 => ok_boardOf' h a1 a2
theorem Oz_ends {n z : Nat} (hn : 1000 ≤ n) : Ok_ends n z (RelB z (z + 75)) := fun V R G U h hI a1 => ok_ends' h a1
theorem Oz_anew {n z : Nat} (hn : 1000 ≤ n) : Ok_anew n z (RelB z (z + 75)) := fun V R G U h hI => ok_anew' hn h
theorem Oz_state {n z : Nat} (hn : 1000 ≤ n) : Ok_state n z (RelB z (z + 75)) := fun V R G U h hI a1 => ok_state' hn h a1
theorem Oz_feed {n z : Nat} (hn : 1000 ≤ n) : Ok_feed n z (RelB z (z + 75)) := fun V R G U h hI a1 a2 => ok_feed' hn h a1 a2
theorem Oz_rules {n z : Nat} (hn : 1000 ≤ n) : Ok_rules n z (RelB z (z + 75)) := fun V R G U h hI => ok_rules' hn h hI
theorem Oz_wash {n z : Nat} (hn : 1000 ≤ n) : Ok_wash n z (RelB z (z + 75)) := fun V R G U h hI => ok_wash' hn h
theorem Oz_on {n z : Nat} (hn : 1000 ≤ n) : Ok_on n z (RelB z (z + 75)) := fun V R G U h hI a1 => ok_on' hn h a1
theorem Oz_when {n z : Nat} (hn : 1000 ≤ n) : Ok_when n z (RelB z (z + 75)) := fun V R G U h hI a1 => ok_when' hn h a1
theorem Oz_creaseFor {n z : Nat} (hn : 1000 ≤ n) : Ok_creaseFor n z (RelB z (z + 75)) := fun V R G U h hI a1 => ok_creaseFor' hn h a1
theorem Oz_boardFor {n z : Nat} (hn : 1000 ≤ n) : Ok_boardFor n z (RelB z (z + 75)) := fun V R G U h hI a1 => ok_boardFor' hn h a1
theorem Oz_fat {n z : Nat} (hn : 1000 ≤ n) : Ok_fat n z (RelB z (z + 75)) := fun V R G U h hI a1 => ok_fat' hn h a1
theorem Oz_least {n z : Nat} (hn : 1000 ≤ n) : Ok_least n z (RelB z (z + 75)) := fun V R G U h hI a1 => ok_least' hn h a1
theorem Oz_left {n z : Nat} (hn : 1000 ≤ n) : Ok_left n z (RelB z (z + 75)) := fun V R G U h hI a1 a2 => ok_left' hn h a1 a2
theorem Oz_piles {n z : Nat} (hn : 1000 ≤ n) : Ok_piles n z (RelB z (z + 75)) := fun V R G U h hI a1 => ok_piles' hn h a1
theorem Oz_best {n z : Nat} (hn : 1000 ≤ n) : Ok_best n z (RelB z (z + 75)) := fun V R G U h hI a1 => ok_best' hn h a1
theorem Oz_ith {n z : Nat} (hn : 1000 ≤ n) : Ok_ith n z (RelB z (z + 75)) := fun V R G U h hI a1 a2 => ok_ith' hn h a1 a2
theorem Oz_ways {n z : Nat} (hn : 1000 ≤ n) : Ok_ways n z (RelB z (z + 75)) := fun V R G U h hI a1 => ok_ways' hn h a1
theorem Oz_note {n z : Nat} (hn : 1000 ≤ n) : Ok_note n z (RelB z (z + 75)) := fun V R G U h hI a1 a2 => ok_note' hn h a1 a2
theorem Oz_bars {n z : Nat} (hn : 1000 ≤ n) : Ok_bars n z (RelB z (z + 75)) := fun V R G U h hI a1 a2 => ok_bars' hn h a1 a2
theorem Oz_game {n z : Nat} (hn : 1000 ≤ n) : Ok_game n z (RelB z (z + 75)) := fun V R G U h hI a1 => ok_game' hn h a1
theorem Oz_play {n z : Nat} (hn : 1000 ≤ n) : Ok_play n z (RelB z (z + 75)) := fun V R G U h hI a1 => ok_play' hn h a1
theorem Oz_report {n z : Nat} (hn : 1000 ≤ n) : Ok_report n z (RelB z (z + 75)) := fun V R G U h hI a1 a2 a3 a4 => ok_report' h a1 a2 a3 a4
theorem Oz_forget {n z : Nat} (hn : 1000 ≤ n) : Ok_forget n z (RelB z (z + 75)) := fun V R G U h hI => ok_forget' h
theorem Oz_lone {n z : Nat} (hn : 1000 ≤ n) : Ok_lone n z (RelB z (z + 75)) := fun V R G U h hI a1 => ok_lone' hn h hI a1
theorem Oz_liar {n z : Nat} (hn : 1000 ≤ n) : Ok_liar n z (RelB z (z + 75)) := fun V R G U h hI => ok_liar' hn h hI
theorem Oz_seed {n z : Nat} (hn : 1000 ≤ n) : Ok_seed n z (RelB z (z + 75)) := fun V R G U h hI a1 => ok_seed' h a1
theorem Oz_lot {n z : Nat} (hn : 1000 ≤ n) : Ok_lot n z (RelB z (z + 75)) := fun V R G U h hI => ok_lot' hn h
theorem Oz_times {n z : Nat} (hn : 1000 ≤ n) : Ok_times n z (RelB z (z + 75)) := fun V R G U h hI a1 a2 => ok_times' hn h a1 a2
theorem Oz_prove {n z : Nat} (hn : 1000 ≤ n) : Ok_prove n z (RelB z (z + 75)) := fun V R G U h hI a1 => ok_prove' hn h a1
theorem Oz_row {n z : Nat} (hn : 1000 ≤ n) : Ok_row n z (RelB z (z + 75)) := fun V R G U h hI a1 a2 => ok_row' h a1 a2
theorem Oz_alterRow {n z : Nat} (hn : 1000 ≤ n) : Ok_alterRow n z (RelB z (z + 75)) := fun V R G U h hI a1 a2 a3 => ok_alterRow' h a1 a2 a3
theorem Oz_judge {n z : Nat} (hn : 1000 ≤ n) : Ok_judge n z (RelB z (z + 75)) := fun V R G U h hI => ok_judge' hn h
theorem Oz_sheet {n z : Nat} (hn : 1000 ≤ n) : Ok_sheet n z (RelB z (z + 75)) := fun V R G U h hI a1 a2 a3 => ok_sheet' hn h hI a1 a2 a3
theorem Oz_write {n z : Nat} (hn : 1000 ≤ n) : Ok_write n z (RelB z (z + 75)) := fun V R G U h hI a1 a2 a3 => ok_write' h hI a1 a2 a3
theorem Oz_item {n z : Nat} (hn : 1000 ≤ n) : Ok_item n z (RelB z (z + 75)) := fun V R G U h hI a1 a2 a3 => ok_item' h a1 a2 a3
theorem Oz_goAll {n z : Nat} (hn : 1000 ≤ n) : Ok_goAll n z (RelB z (z + 75)) := fun V R G U h hI a1 a2 a3 => ok_goAll' hn h a1 a2 a3
theorem Oz_wouldBe {n z : Nat} (hn : 1000 ≤ n) : Ok_wouldBe n z (RelB z (z + 75)) := fun V R G U h hI a1 a2 a3 => ok_wouldBe' hn h a1 a2 a3
theorem Oz_shelf {n z : Nat} (hn : 1000 ≤ n) : Ok_shelf n z (RelB z (z + 75)) := fun V R G U h hI a1 a2 a3 => ok_shelf' h a1 a2 a3
theorem Oz_taken {n z : Nat} (hn : 1000 ≤ n) : Ok_taken n z (RelB z (z + 75)) := fun V R G U h hI a1 a2 => ok_taken' hn h a1 a2
theorem Oz_act {n z : Nat} (hn : 1000 ≤ n) : Ok_act n z (RelB z (z + 75)) := fun V R G U h hI a1 a2 a3 => ok_act' h a1 a2 a3
theorem Oz_trace {n z : Nat} (hn : 1000 ≤ n) : Ok_trace n z (RelB z (z + 75)) := fun V R G U h hI a1 => ok_trace' h a1
theorem Oz_many {n z : Nat} (hn : 1000 ≤ n) : Ok_many n z (RelB z (z + 75)) := fun V R G U h hI a1 => ok_many' hn h a1
theorem Oz_keep {n z : Nat} (hn : 1000 ≤ n) : Ok_keep n z (RelB z (z + 75)) := fun V R G U h hI => ok_keep' hn h hI
theorem Oz_again {n z : Nat} (hn : 1000 ≤ n) : Ok_again n z (RelB z (z + 75)) := fun V R G U h hI => ok_again' hn h hI
theorem law_ok {n z : Nat} (hn : 1000 ≤ n) : LawOK n z (RelB z (z + 75)) := ⟨Oz_thing hn, Oz_thingOf hn, Oz_change hn, Oz_remake hn, Oz_iron hn, Oz_board hn, Oz_boardOf hn, Oz_ends hn, Oz_anew hn, Oz_state hn, Oz_feed hn, Oz_rules hn, Oz_wash hn, Oz_on hn, Oz_when hn, Oz_creaseFor hn, Oz_boardFor hn, Oz_fat hn, Oz_least hn, Oz_left hn, Oz_piles hn, Oz_best hn, Oz_ith hn, Oz_ways hn, Oz_note hn, Oz_bars hn, Oz_game hn, Oz_play hn, Oz_report hn, Oz_forget hn, Oz_lone hn, Oz_liar hn, Oz_seed hn, Oz_lot hn, Oz_times hn, Oz_prove hn, Oz_row hn, Oz_alterRow hn, Oz_judge hn, Oz_sheet hn, Oz_write hn, Oz_item hn, Oz_goAll hn, Oz_wouldBe hn, Oz_shelf hn, Oz_taken hn, Oz_act hn, Oz_trace hn, Oz_many hn, Oz_keep hn, Oz_again hn⟩
