/-! By program (wip/whole/gen2.py): the words of the tables by their places, and the code tables' rightness. -/
def m_tbl : List Jvm.Cond := lw_tbl.filter goodWord
theorem m_tbl_of {w : Jvm.Cond} (h : w ∈ lw_tbl) (g : goodWord w = true) : w ∈ m_tbl := List.mem_filter.mpr ⟨h, g⟩
theorem m_tbl_good : ∀ w ∈ m_tbl, w ∈ m_tbl ∧ ((w.onTables && w.keeps) = true ∨ ∃ ty, w = .arrayClass ty) := fun _ h => ⟨h, good_of_word (List.mem_filter.mp h).2⟩
theorem wd_329 : (Cond.methodLink "FewerMan$Acts" 3 ⟨"java/lang/Object", "<init>", "()V"⟩ : Jvm.Cond) ∈ m_tbl := m_tbl_of (List.mem_of_getElem? (i := 329) (by decide +kernel)) rfl
theorem wd_86 : (Cond.instanceMethod ⟨"java/lang/Object", "<init>", "()V"⟩ : Jvm.Cond) ∈ m_tbl := m_tbl_of (List.mem_of_getElem? (i := 86) (by decide +kernel)) rfl
theorem wd_87 : (Cond.code ⟨"java/lang/Object", "<init>", "()V"⟩ ⟨#[0xb1]⟩ 1 none : Jvm.Cond) ∈ m_tbl := m_tbl_of (List.mem_of_getElem? (i := 87) (by decide +kernel)) rfl
theorem wd_168 : (Cond.arrayClass .int : Jvm.Cond) ∈ m_tbl := m_tbl_of (List.mem_of_getElem? (i := 168) (by decide +kernel)) rfl
theorem wd_330 : (Cond.fieldLink "FewerMan$Acts" 9 "FewerMan$Acts" "trace" "[I" : Jvm.Cond) ∈ m_tbl := m_tbl_of (List.mem_of_getElem? (i := 330) (by decide +kernel)) rfl
theorem wd_332 : (Cond.fieldLink "FewerMan$Acts" 15 "FewerMan$Acts" "ran" "I" : Jvm.Cond) ∈ m_tbl := m_tbl_of (List.mem_of_getElem? (i := 332) (by decide +kernel)) rfl
theorem wm_840 : (Cond.methodLink "FewerMan$Acts" 19 Lib.Math.min.name : Jvm.Cond) ∈ m_tbl := m_tbl_of (List.mem_of_getElem? (i := 840) (by decide +kernel)) rfl
theorem wm_392 : (Cond.static Lib.Math.min.name : Jvm.Cond) ∈ m_tbl := m_tbl_of (List.mem_of_getElem? (i := 392) (by decide +kernel)) rfl
theorem wm_393 : (Cond.code Lib.Math.min.name Lib.Math.min.code 2 (some .int) : Jvm.Cond) ∈ m_tbl := m_tbl_of (List.mem_of_getElem? (i := 393) (by decide +kernel)) rfl
theorem wd_72 : (Cond.initialized "java/lang/Math" : Jvm.Cond) ∈ m_tbl := m_tbl_of (List.mem_of_getElem? (i := 72) (by decide +kernel)) rfl
theorem wd_334 : (Cond.fieldLink "FewerMan$Acts" 25 "FewerMan$Acts" "kind" "I" : Jvm.Cond) ∈ m_tbl := m_tbl_of (List.mem_of_getElem? (i := 334) (by decide +kernel)) rfl
theorem wd_335 : (Cond.fieldLink "FewerMan$Acts" 28 "FewerMan$Acts" "i" "I" : Jvm.Cond) ∈ m_tbl := m_tbl_of (List.mem_of_getElem? (i := 335) (by decide +kernel)) rfl
theorem wd_336 : (Cond.fieldLink "FewerMan$Acts" 31 "FewerMan$Acts" "v" "I" : Jvm.Cond) ∈ m_tbl := m_tbl_of (List.mem_of_getElem? (i := 336) (by decide +kernel)) rfl
theorem wd_811 : (Cond.methodLink "FewerMan$Acts" 34 ⟨"FewerMan$Acts", "moves", "(LFewerMan$Acts;II)I"⟩ : Jvm.Cond) ∈ m_tbl := m_tbl_of (List.mem_of_getElem? (i := 811) (by decide +kernel)) rfl
theorem wd_812 : (Cond.static ⟨"FewerMan$Acts", "moves", "(LFewerMan$Acts;II)I"⟩ : Jvm.Cond) ∈ m_tbl := m_tbl_of (List.mem_of_getElem? (i := 812) (by decide +kernel)) rfl
theorem wd_70 : (Cond.initialized "FewerMan$Acts" : Jvm.Cond) ∈ m_tbl := m_tbl_of (List.mem_of_getElem? (i := 70) (by decide +kernel)) rfl
theorem wd_822 : (Cond.methodLink "FewerMan$Acts" 38 ⟨"FewerMan$Acts", "bets", "(LFewerMan$Acts;II)I"⟩ : Jvm.Cond) ∈ m_tbl := m_tbl_of (List.mem_of_getElem? (i := 822) (by decide +kernel)) rfl
theorem wd_823 : (Cond.static ⟨"FewerMan$Acts", "bets", "(LFewerMan$Acts;II)I"⟩ : Jvm.Cond) ∈ m_tbl := m_tbl_of (List.mem_of_getElem? (i := 823) (by decide +kernel)) rfl
theorem wd_827 : (Cond.methodLink "FewerMan$Acts" 41 ⟨"FewerMan$Acts", "tells", "(LFewerMan$Acts;II)I"⟩ : Jvm.Cond) ∈ m_tbl := m_tbl_of (List.mem_of_getElem? (i := 827) (by decide +kernel)) rfl
theorem wd_828 : (Cond.static ⟨"FewerMan$Acts", "tells", "(LFewerMan$Acts;II)I"⟩ : Jvm.Cond) ∈ m_tbl := m_tbl_of (List.mem_of_getElem? (i := 828) (by decide +kernel)) rfl
theorem wd_814 : (Cond.fieldLink "FewerMan$Acts" 44 "FewerMan$Acts" "MOVES" "[I" : Jvm.Cond) ∈ m_tbl := m_tbl_of (List.mem_of_getElem? (i := 814) (by decide +kernel)) rfl
theorem wd_816 : (Cond.methodLink "FewerMan$Acts" 47 ⟨"FewerMan$Acts", "begins", "(I)V"⟩ : Jvm.Cond) ∈ m_tbl := m_tbl_of (List.mem_of_getElem? (i := 816) (by decide +kernel)) rfl
theorem wd_818 : (Cond.instanceMethod ⟨"FewerMan$Acts", "begins", "(I)V"⟩ : Jvm.Cond) ∈ m_tbl := m_tbl_of (List.mem_of_getElem? (i := 818) (by decide +kernel)) rfl
theorem wd_17 : (Cond.selects "FewerMan$Acts" ⟨"FewerMan$Acts", "begins", "(I)V"⟩ ⟨"FewerMan$Acts", "begins", "(I)V"⟩ : Jvm.Cond) ∈ m_tbl := m_tbl_of (List.mem_of_getElem? (i := 17) (by decide +kernel)) rfl
theorem wd_825 : (Cond.fieldLink "FewerMan$Acts" 54 "FewerMan$Acts" "BETS" "[I" : Jvm.Cond) ∈ m_tbl := m_tbl_of (List.mem_of_getElem? (i := 825) (by decide +kernel)) rfl
theorem wd_830 : (Cond.fieldLink "FewerMan$Acts" 57 "FewerMan$Acts" "TELLS" "[I" : Jvm.Cond) ∈ m_tbl := m_tbl_of (List.mem_of_getElem? (i := 830) (by decide +kernel)) rfl
theorem wd_213 : (Cond.methodLink "FewerMan$Cloud" 3 ⟨"java/lang/Object", "<init>", "()V"⟩ : Jvm.Cond) ∈ m_tbl := m_tbl_of (List.mem_of_getElem? (i := 213) (by decide +kernel)) rfl
theorem wd_214 : (Cond.fieldLink "FewerMan$Cloud" 11 "FewerMan$Cloud" "pairs" "[I" : Jvm.Cond) ∈ m_tbl := m_tbl_of (List.mem_of_getElem? (i := 214) (by decide +kernel)) rfl
theorem wd_229 : (Cond.arrayClass .boolean : Jvm.Cond) ∈ m_tbl := m_tbl_of (List.mem_of_getElem? (i := 229) (by decide +kernel)) rfl
theorem wd_218 : (Cond.fieldLink "FewerMan$Cloud" 15 "FewerMan$Cloud" "listed" "[Z" : Jvm.Cond) ∈ m_tbl := m_tbl_of (List.mem_of_getElem? (i := 218) (by decide +kernel)) rfl
theorem wd_230 : (Cond.arrayClass .long : Jvm.Cond) ∈ m_tbl := m_tbl_of (List.mem_of_getElem? (i := 230) (by decide +kernel)) rfl
theorem wd_219 : (Cond.fieldLink "FewerMan$Cloud" 19 "FewerMan$Cloud" "parts" "[J" : Jvm.Cond) ∈ m_tbl := m_tbl_of (List.mem_of_getElem? (i := 219) (by decide +kernel)) rfl
theorem wd_217 : (Cond.fieldLink "FewerMan$Cloud" 23 "FewerMan$Cloud" "size" "I" : Jvm.Cond) ∈ m_tbl := m_tbl_of (List.mem_of_getElem? (i := 217) (by decide +kernel)) rfl
theorem wd_207 : (Cond.methodLink "FewerMan$Duel" 3 ⟨"java/lang/Object", "<init>", "()V"⟩ : Jvm.Cond) ∈ m_tbl := m_tbl_of (List.mem_of_getElem? (i := 207) (by decide +kernel)) rfl
theorem wd_208 : (Cond.classLink "FewerMan$Duel" 9 "FewerMan$Cloud" : Jvm.Cond) ∈ m_tbl := m_tbl_of (List.mem_of_getElem? (i := 208) (by decide +kernel)) rfl
theorem wd_209 : (Cond.instantiable "FewerMan$Cloud" 4 : Jvm.Cond) ∈ m_tbl := m_tbl_of (List.mem_of_getElem? (i := 209) (by decide +kernel)) rfl
theorem wd_66 : (Cond.initialized "FewerMan$Cloud" : Jvm.Cond) ∈ m_tbl := m_tbl_of (List.mem_of_getElem? (i := 66) (by decide +kernel)) rfl
theorem wd_211 : (Cond.instanceMethod ⟨"FewerMan$Cloud", "<init>", "()V"⟩ : Jvm.Cond) ∈ m_tbl := m_tbl_of (List.mem_of_getElem? (i := 211) (by decide +kernel)) rfl
theorem wd_231 : (Cond.fieldLink "FewerMan$Duel" 12 "FewerMan$Duel" "now" "LFewerMan$Cloud;" : Jvm.Cond) ∈ m_tbl := m_tbl_of (List.mem_of_getElem? (i := 231) (by decide +kernel)) rfl
theorem wd_232 : (Cond.fieldLink "FewerMan$Duel" 18 "FewerMan$Duel" "next" "LFewerMan$Cloud;" : Jvm.Cond) ∈ m_tbl := m_tbl_of (List.mem_of_getElem? (i := 232) (by decide +kernel)) rfl
theorem wd_233 : (Cond.fieldLink "FewerMan$Duel" 21 "FewerMan$Duel" "room" "LFewerMan$Room;" : Jvm.Cond) ∈ m_tbl := m_tbl_of (List.mem_of_getElem? (i := 233) (by decide +kernel)) rfl
theorem wd_234 : (Cond.fieldLink "FewerMan$Duel" 25 "FewerMan$Duel" "one" "I" : Jvm.Cond) ∈ m_tbl := m_tbl_of (List.mem_of_getElem? (i := 234) (by decide +kernel)) rfl
theorem wd_235 : (Cond.fieldLink "FewerMan$Duel" 29 "FewerMan$Duel" "other" "I" : Jvm.Cond) ∈ m_tbl := m_tbl_of (List.mem_of_getElem? (i := 235) (by decide +kernel)) rfl
theorem wd_110 : (Cond.fieldLink "FewerMan$Duel" 32 "FewerMan$Room" "game" "I" : Jvm.Cond) ∈ m_tbl := m_tbl_of (List.mem_of_getElem? (i := 110) (by decide +kernel)) rfl
theorem wd_236 : (Cond.fieldLink "FewerMan$Duel" 37 "FewerMan$Duel" "game" "I" : Jvm.Cond) ∈ m_tbl := m_tbl_of (List.mem_of_getElem? (i := 236) (by decide +kernel)) rfl
theorem wd_237 : (Cond.fieldLink "FewerMan$Duel" 38 "FewerMan$Duel" "played" "I" : Jvm.Cond) ∈ m_tbl := m_tbl_of (List.mem_of_getElem? (i := 237) (by decide +kernel)) rfl
theorem wd_238 : (Cond.fieldLink "FewerMan$Duel" 41 "FewerMan$Duel" "counts" "Z" : Jvm.Cond) ∈ m_tbl := m_tbl_of (List.mem_of_getElem? (i := 238) (by decide +kernel)) rfl
theorem wd_583 : (Cond.methodLink "FewerMan$Duel" 45 ⟨"FewerMan$Cloud", "clear", "()V"⟩ : Jvm.Cond) ∈ m_tbl := m_tbl_of (List.mem_of_getElem? (i := 583) (by decide +kernel)) rfl
theorem wd_584 : (Cond.instanceMethod ⟨"FewerMan$Cloud", "clear", "()V"⟩ : Jvm.Cond) ∈ m_tbl := m_tbl_of (List.mem_of_getElem? (i := 584) (by decide +kernel)) rfl
theorem wd_585 : (Cond.selects "FewerMan$Cloud" ⟨"FewerMan$Cloud", "clear", "()V"⟩ ⟨"FewerMan$Cloud", "clear", "()V"⟩ : Jvm.Cond) ∈ m_tbl := m_tbl_of (List.mem_of_getElem? (i := 585) (by decide +kernel)) rfl
theorem wd_104 : (Cond.fieldLink "FewerMan$Duel" 48 "FewerMan$Room" "men" "[I" : Jvm.Cond) ∈ m_tbl := m_tbl_of (List.mem_of_getElem? (i := 104) (by decide +kernel)) rfl
theorem wd_587 : (Cond.methodLink "FewerMan$Duel" 52 ⟨"FewerMan$Cloud", "pairOf", "(II)I"⟩ : Jvm.Cond) ∈ m_tbl := m_tbl_of (List.mem_of_getElem? (i := 587) (by decide +kernel)) rfl
theorem wd_588 : (Cond.static ⟨"FewerMan$Cloud", "pairOf", "(II)I"⟩ : Jvm.Cond) ∈ m_tbl := m_tbl_of (List.mem_of_getElem? (i := 588) (by decide +kernel)) rfl
theorem wd_590 : (Cond.methodLink "FewerMan$Duel" 56 ⟨"FewerMan$Cloud", "add", "(IIJ)V"⟩ : Jvm.Cond) ∈ m_tbl := m_tbl_of (List.mem_of_getElem? (i := 590) (by decide +kernel)) rfl
theorem wd_591 : (Cond.instanceMethod ⟨"FewerMan$Cloud", "add", "(IIJ)V"⟩ : Jvm.Cond) ∈ m_tbl := m_tbl_of (List.mem_of_getElem? (i := 591) (by decide +kernel)) rfl
theorem wd_592 : (Cond.selects "FewerMan$Cloud" ⟨"FewerMan$Cloud", "add", "(IIJ)V"⟩ ⟨"FewerMan$Cloud", "add", "(IIJ)V"⟩ : Jvm.Cond) ∈ m_tbl := m_tbl_of (List.mem_of_getElem? (i := 592) (by decide +kernel)) rfl
theorem wd_216 : (Cond.fieldLink "FewerMan$Duel" 60 "FewerMan$Cloud" "size" "I" : Jvm.Cond) ∈ m_tbl := m_tbl_of (List.mem_of_getElem? (i := 216) (by decide +kernel)) rfl
theorem wd_215 : (Cond.fieldLink "FewerMan$Duel" 63 "FewerMan$Cloud" "pairs" "[I" : Jvm.Cond) ∈ m_tbl := m_tbl_of (List.mem_of_getElem? (i := 215) (by decide +kernel)) rfl
theorem wd_598 : (Cond.methodLink "FewerMan$Duel" 66 ⟨"FewerMan$Duel", "spreads", "(I)V"⟩ : Jvm.Cond) ∈ m_tbl := m_tbl_of (List.mem_of_getElem? (i := 598) (by decide +kernel)) rfl
theorem wd_600 : (Cond.instanceMethod ⟨"FewerMan$Duel", "spreads", "(I)V"⟩ : Jvm.Cond) ∈ m_tbl := m_tbl_of (List.mem_of_getElem? (i := 600) (by decide +kernel)) rfl
theorem wd_11 : (Cond.selects "FewerMan$Duel" ⟨"FewerMan$Duel", "spreads", "(I)V"⟩ ⟨"FewerMan$Duel", "spreads", "(I)V"⟩ : Jvm.Cond) ∈ m_tbl := m_tbl_of (List.mem_of_getElem? (i := 11) (by decide +kernel)) rfl
theorem wd_65 : (Cond.initialized "FewerMan$Duel" : Jvm.Cond) ∈ m_tbl := m_tbl_of (List.mem_of_getElem? (i := 65) (by decide +kernel)) rfl
theorem wd_602 : (Cond.methodLink "FewerMan$Duel" 70 ⟨"FewerMan$Cloud", "menOfOne", "(I)I"⟩ : Jvm.Cond) ∈ m_tbl := m_tbl_of (List.mem_of_getElem? (i := 602) (by decide +kernel)) rfl
theorem wd_603 : (Cond.static ⟨"FewerMan$Cloud", "menOfOne", "(I)I"⟩ : Jvm.Cond) ∈ m_tbl := m_tbl_of (List.mem_of_getElem? (i := 603) (by decide +kernel)) rfl
theorem wd_605 : (Cond.methodLink "FewerMan$Duel" 74 ⟨"FewerMan$Cloud", "menOfOther", "(I)I"⟩ : Jvm.Cond) ∈ m_tbl := m_tbl_of (List.mem_of_getElem? (i := 605) (by decide +kernel)) rfl
theorem wd_606 : (Cond.static ⟨"FewerMan$Cloud", "menOfOther", "(I)I"⟩ : Jvm.Cond) ∈ m_tbl := m_tbl_of (List.mem_of_getElem? (i := 606) (by decide +kernel)) rfl
theorem wd_608 : (Cond.methodLink "FewerMan$Duel" 77 ⟨"FewerMan$Room", "oddsOf", "(IIIII)I"⟩ : Jvm.Cond) ∈ m_tbl := m_tbl_of (List.mem_of_getElem? (i := 608) (by decide +kernel)) rfl
theorem wd_545 : (Cond.instanceMethod ⟨"FewerMan$Room", "oddsOf", "(IIIII)I"⟩ : Jvm.Cond) ∈ m_tbl := m_tbl_of (List.mem_of_getElem? (i := 545) (by decide +kernel)) rfl
theorem wd_546 : (Cond.selects "FewerMan$Room" ⟨"FewerMan$Room", "oddsOf", "(IIIII)I"⟩ ⟨"FewerMan$Room", "oddsOf", "(IIIII)I"⟩ : Jvm.Cond) ∈ m_tbl := m_tbl_of (List.mem_of_getElem? (i := 546) (by decide +kernel)) rfl
theorem wd_63 : (Cond.initialized "FewerMan$Room" : Jvm.Cond) ∈ m_tbl := m_tbl_of (List.mem_of_getElem? (i := 63) (by decide +kernel)) rfl
theorem wd_609 : (Cond.methodLink "FewerMan$Duel" 81 ⟨"FewerMan$Room", "menIfWon", "(I)I"⟩ : Jvm.Cond) ∈ m_tbl := m_tbl_of (List.mem_of_getElem? (i := 609) (by decide +kernel)) rfl
theorem wd_562 : (Cond.instanceMethod ⟨"FewerMan$Room", "menIfWon", "(I)I"⟩ : Jvm.Cond) ∈ m_tbl := m_tbl_of (List.mem_of_getElem? (i := 562) (by decide +kernel)) rfl
theorem wd_563 : (Cond.selects "FewerMan$Room" ⟨"FewerMan$Room", "menIfWon", "(I)I"⟩ ⟨"FewerMan$Room", "menIfWon", "(I)I"⟩ : Jvm.Cond) ∈ m_tbl := m_tbl_of (List.mem_of_getElem? (i := 563) (by decide +kernel)) rfl
theorem wd_610 : (Cond.methodLink "FewerMan$Duel" 84 ⟨"FewerMan$Room", "menIfLost", "(I)I"⟩ : Jvm.Cond) ∈ m_tbl := m_tbl_of (List.mem_of_getElem? (i := 610) (by decide +kernel)) rfl
theorem wd_567 : (Cond.instanceMethod ⟨"FewerMan$Room", "menIfLost", "(I)I"⟩ : Jvm.Cond) ∈ m_tbl := m_tbl_of (List.mem_of_getElem? (i := 567) (by decide +kernel)) rfl
theorem wd_568 : (Cond.selects "FewerMan$Room" ⟨"FewerMan$Room", "menIfLost", "(I)I"⟩ ⟨"FewerMan$Room", "menIfLost", "(I)I"⟩ : Jvm.Cond) ∈ m_tbl := m_tbl_of (List.mem_of_getElem? (i := 568) (by decide +kernel)) rfl
theorem wm_611 : (Cond.methodLink "FewerMan$Duel" 87 Lib.Math.min.name : Jvm.Cond) ∈ m_tbl := m_tbl_of (List.mem_of_getElem? (i := 611) (by decide +kernel)) rfl
theorem wd_612 : (Cond.methodLink "FewerMan$Duel" 92 ⟨"FewerMan$Cloud", "part", "(II)J"⟩ : Jvm.Cond) ∈ m_tbl := m_tbl_of (List.mem_of_getElem? (i := 612) (by decide +kernel)) rfl
theorem wd_613 : (Cond.instanceMethod ⟨"FewerMan$Cloud", "part", "(II)J"⟩ : Jvm.Cond) ∈ m_tbl := m_tbl_of (List.mem_of_getElem? (i := 613) (by decide +kernel)) rfl
theorem wd_614 : (Cond.selects "FewerMan$Cloud" ⟨"FewerMan$Cloud", "part", "(II)J"⟩ ⟨"FewerMan$Cloud", "part", "(II)J"⟩ : Jvm.Cond) ∈ m_tbl := m_tbl_of (List.mem_of_getElem? (i := 614) (by decide +kernel)) rfl
theorem wd_620 : (Cond.methodLink "FewerMan$Duel" 96 ⟨"FewerMan$Cloud", "take", "(II)J"⟩ : Jvm.Cond) ∈ m_tbl := m_tbl_of (List.mem_of_getElem? (i := 620) (by decide +kernel)) rfl
theorem wd_621 : (Cond.instanceMethod ⟨"FewerMan$Cloud", "take", "(II)J"⟩ : Jvm.Cond) ∈ m_tbl := m_tbl_of (List.mem_of_getElem? (i := 621) (by decide +kernel)) rfl
theorem wd_622 : (Cond.selects "FewerMan$Cloud" ⟨"FewerMan$Cloud", "take", "(II)J"⟩ ⟨"FewerMan$Cloud", "take", "(II)J"⟩ : Jvm.Cond) ∈ m_tbl := m_tbl_of (List.mem_of_getElem? (i := 622) (by decide +kernel)) rfl
theorem wd_450 : (Cond.methodLink "FewerMan$Inn" 1 ⟨"java/lang/Object", "<init>", "()V"⟩ : Jvm.Cond) ∈ m_tbl := m_tbl_of (List.mem_of_getElem? (i := 450) (by decide +kernel)) rfl
theorem wd_177 : (Cond.fieldLink "FewerMan$Inn" 7 "FewerMan$Reader" "less" "I" : Jvm.Cond) ∈ m_tbl := m_tbl_of (List.mem_of_getElem? (i := 177) (by decide +kernel)) rfl
theorem wd_454 : (Cond.fieldLink "FewerMan$Inn" 13 "FewerMan$Inn" "less" "I" : Jvm.Cond) ∈ m_tbl := m_tbl_of (List.mem_of_getElem? (i := 454) (by decide +kernel)) rfl
theorem wd_179 : (Cond.fieldLink "FewerMan$Inn" 16 "FewerMan$Reader" "more" "I" : Jvm.Cond) ∈ m_tbl := m_tbl_of (List.mem_of_getElem? (i := 179) (by decide +kernel)) rfl
theorem wd_456 : (Cond.fieldLink "FewerMan$Inn" 19 "FewerMan$Inn" "more" "I" : Jvm.Cond) ∈ m_tbl := m_tbl_of (List.mem_of_getElem? (i := 456) (by decide +kernel)) rfl
theorem wd_183 : (Cond.fieldLink "FewerMan$Inn" 20 "FewerMan$Reader" "codeSize" "I" : Jvm.Cond) ∈ m_tbl := m_tbl_of (List.mem_of_getElem? (i := 183) (by decide +kernel)) rfl
theorem wd_458 : (Cond.fieldLink "FewerMan$Inn" 23 "FewerMan$Inn" "code" "[I" : Jvm.Cond) ∈ m_tbl := m_tbl_of (List.mem_of_getElem? (i := 458) (by decide +kernel)) rfl
theorem wd_182 : (Cond.fieldLink "FewerMan$Inn" 27 "FewerMan$Reader" "code" "[I" : Jvm.Cond) ∈ m_tbl := m_tbl_of (List.mem_of_getElem? (i := 182) (by decide +kernel)) rfl
theorem wd_451 : (Cond.methodLink "FewerMan$Inn" 28 ⟨"java/lang/System", "arraycopy", "(Ljava/lang/Object;ILjava/lang/Object;II)V"⟩ : Jvm.Cond) ∈ m_tbl := m_tbl_of (List.mem_of_getElem? (i := 451) (by decide +kernel)) rfl
theorem wd_453 : (Cond.native ⟨"java/lang/System", "arraycopy", "(Ljava/lang/Object;ILjava/lang/Object;II)V"⟩ : Jvm.Cond) ∈ m_tbl := m_tbl_of (List.mem_of_getElem? (i := 453) (by decide +kernel)) rfl
theorem wd_452 : (Cond.static ⟨"java/lang/System", "arraycopy", "(Ljava/lang/Object;ILjava/lang/Object;II)V"⟩ : Jvm.Cond) ∈ m_tbl := m_tbl_of (List.mem_of_getElem? (i := 452) (by decide +kernel)) rfl
theorem wd_74 : (Cond.initialized "java/lang/System" : Jvm.Cond) ∈ m_tbl := m_tbl_of (List.mem_of_getElem? (i := 74) (by decide +kernel)) rfl
theorem wd_524 : (Cond.methodLink "FewerMan$Inn" 34 ⟨"FewerMan$Inn", "passes", "(I[I)I"⟩ : Jvm.Cond) ∈ m_tbl := m_tbl_of (List.mem_of_getElem? (i := 524) (by decide +kernel)) rfl
theorem wd_525 : (Cond.static ⟨"FewerMan$Inn", "passes", "(I[I)I"⟩ : Jvm.Cond) ∈ m_tbl := m_tbl_of (List.mem_of_getElem? (i := 525) (by decide +kernel)) rfl
theorem wd_73 : (Cond.initialized "FewerMan$Inn" : Jvm.Cond) ∈ m_tbl := m_tbl_of (List.mem_of_getElem? (i := 73) (by decide +kernel)) rfl
theorem wd_277 : (Cond.methodLink "FewerMan$Orders" 3 ⟨"java/lang/Object", "<init>", "()V"⟩ : Jvm.Cond) ∈ m_tbl := m_tbl_of (List.mem_of_getElem? (i := 277) (by decide +kernel)) rfl
theorem wd_280 : (Cond.fieldLink "FewerMan$Orders" 9 "FewerMan$Orders" "best" "[I" : Jvm.Cond) ∈ m_tbl := m_tbl_of (List.mem_of_getElem? (i := 280) (by decide +kernel)) rfl
theorem wd_286 : (Cond.fieldLink "FewerMan$Orders" 15 "FewerMan$Orders" "row" "[I" : Jvm.Cond) ∈ m_tbl := m_tbl_of (List.mem_of_getElem? (i := 286) (by decide +kernel)) rfl
theorem wd_287 : (Cond.fieldLink "FewerMan$Orders" 20 "FewerMan$Orders" "spread" "[[J" : Jvm.Cond) ∈ m_tbl := m_tbl_of (List.mem_of_getElem? (i := 287) (by decide +kernel)) rfl
theorem wd_288 : (Cond.fieldLink "FewerMan$Orders" 23 "FewerMan$Orders" "room" "LFewerMan$Room;" : Jvm.Cond) ∈ m_tbl := m_tbl_of (List.mem_of_getElem? (i := 288) (by decide +kernel)) rfl
theorem wd_289 : (Cond.fieldLink "FewerMan$Orders" 27 "FewerMan$Orders" "player" "I" : Jvm.Cond) ∈ m_tbl := m_tbl_of (List.mem_of_getElem? (i := 289) (by decide +kernel)) rfl
theorem wd_716 : (Cond.methodLink "FewerMan$Orders" 31 ⟨"java/lang/Integer", "bitCount", "(I)I"⟩ : Jvm.Cond) ∈ m_tbl := m_tbl_of (List.mem_of_getElem? (i := 716) (by decide +kernel)) rfl
theorem wd_707 : (Cond.static ⟨"java/lang/Integer", "bitCount", "(I)I"⟩ : Jvm.Cond) ∈ m_tbl := m_tbl_of (List.mem_of_getElem? (i := 707) (by decide +kernel)) rfl
theorem wd_79 : (Cond.initialized "java/lang/Integer" : Jvm.Cond) ∈ m_tbl := m_tbl_of (List.mem_of_getElem? (i := 79) (by decide +kernel)) rfl
theorem wm_717 : (Cond.methodLink "FewerMan$Orders" 37 Lib.Math.min.name : Jvm.Cond) ∈ m_tbl := m_tbl_of (List.mem_of_getElem? (i := 717) (by decide +kernel)) rfl
theorem wd_282 : (Cond.fieldLink "FewerMan$Orders" 43 "FewerMan$Orders" "size" "I" : Jvm.Cond) ∈ m_tbl := m_tbl_of (List.mem_of_getElem? (i := 282) (by decide +kernel)) rfl
theorem wd_718 : (Cond.constantLong "FewerMan$Orders" 46 (-1) : Jvm.Cond) ∈ m_tbl := m_tbl_of (List.mem_of_getElem? (i := 718) (by decide +kernel)) rfl
theorem wd_284 : (Cond.fieldLink "FewerMan$Orders" 48 "FewerMan$Orders" "mean" "J" : Jvm.Cond) ∈ m_tbl := m_tbl_of (List.mem_of_getElem? (i := 284) (by decide +kernel)) rfl
theorem wd_105 : (Cond.fieldLink "FewerMan$Orders" 52 "FewerMan$Room" "men" "[I" : Jvm.Cond) ∈ m_tbl := m_tbl_of (List.mem_of_getElem? (i := 105) (by decide +kernel)) rfl
theorem wd_719 : (Cond.methodLink "FewerMan$Orders" 57 ⟨"FewerMan$Orders", "tryRows", "(LFewerMan$Orders;IIJ)V"⟩ : Jvm.Cond) ∈ m_tbl := m_tbl_of (List.mem_of_getElem? (i := 719) (by decide +kernel)) rfl
theorem wd_720 : (Cond.static ⟨"FewerMan$Orders", "tryRows", "(LFewerMan$Orders;IIJ)V"⟩ : Jvm.Cond) ∈ m_tbl := m_tbl_of (List.mem_of_getElem? (i := 720) (by decide +kernel)) rfl
theorem wd_68 : (Cond.initialized "FewerMan$Orders" : Jvm.Cond) ∈ m_tbl := m_tbl_of (List.mem_of_getElem? (i := 68) (by decide +kernel)) rfl
theorem wd_722 : (Cond.methodLink "FewerMan$Orders" 61 ⟨"java/lang/System", "arraycopy", "(Ljava/lang/Object;ILjava/lang/Object;II)V"⟩ : Jvm.Cond) ∈ m_tbl := m_tbl_of (List.mem_of_getElem? (i := 722) (by decide +kernel)) rfl
theorem wd_96 : (Cond.fieldLink "FewerMan$Orders" 67 "FewerMan$Room" "players" "I" : Jvm.Cond) ∈ m_tbl := m_tbl_of (List.mem_of_getElem? (i := 96) (by decide +kernel)) rfl
theorem wd_723 : (Cond.constantLong "FewerMan$Orders" 70 (10) : Jvm.Cond) ∈ m_tbl := m_tbl_of (List.mem_of_getElem? (i := 723) (by decide +kernel)) rfl
theorem wd_724 : (Cond.methodLink "FewerMan$Orders" 72 ⟨"FewerMan$Orders", "plays", "(II)J"⟩ : Jvm.Cond) ∈ m_tbl := m_tbl_of (List.mem_of_getElem? (i := 724) (by decide +kernel)) rfl
theorem wd_726 : (Cond.instanceMethod ⟨"FewerMan$Orders", "plays", "(II)J"⟩ : Jvm.Cond) ∈ m_tbl := m_tbl_of (List.mem_of_getElem? (i := 726) (by decide +kernel)) rfl
theorem wd_14 : (Cond.selects "FewerMan$Orders" ⟨"FewerMan$Orders", "plays", "(II)J"⟩ ⟨"FewerMan$Orders", "plays", "(II)J"⟩ : Jvm.Cond) ∈ m_tbl := m_tbl_of (List.mem_of_getElem? (i := 14) (by decide +kernel)) rfl
theorem wd_113 : (Cond.fieldLink "FewerMan$Orders" 76 "FewerMan$Room" "game" "I" : Jvm.Cond) ∈ m_tbl := m_tbl_of (List.mem_of_getElem? (i := 113) (by decide +kernel)) rfl
theorem wd_728 : (Cond.methodLink "FewerMan$Orders" 79 ⟨"FewerMan$Room", "oddsOf", "(IIIII)I"⟩ : Jvm.Cond) ∈ m_tbl := m_tbl_of (List.mem_of_getElem? (i := 728) (by decide +kernel)) rfl
theorem wd_729 : (Cond.methodLink "FewerMan$Orders" 83 ⟨"FewerMan$Room", "menIfWon", "(I)I"⟩ : Jvm.Cond) ∈ m_tbl := m_tbl_of (List.mem_of_getElem? (i := 729) (by decide +kernel)) rfl
theorem wd_730 : (Cond.methodLink "FewerMan$Orders" 86 ⟨"FewerMan$Room", "menIfLost", "(I)I"⟩ : Jvm.Cond) ∈ m_tbl := m_tbl_of (List.mem_of_getElem? (i := 730) (by decide +kernel)) rfl
theorem wd_261 : (Cond.methodLink "FewerMan$Purpose" 3 ⟨"java/lang/Object", "<init>", "()V"⟩ : Jvm.Cond) ∈ m_tbl := m_tbl_of (List.mem_of_getElem? (i := 261) (by decide +kernel)) rfl
theorem wd_670 : (Cond.methodLink "FewerMan$Purpose" 9 ⟨"FewerMan$Purpose", "asks", "(LFewerMan$Room;II)V"⟩ : Jvm.Cond) ∈ m_tbl := m_tbl_of (List.mem_of_getElem? (i := 670) (by decide +kernel)) rfl
theorem wd_672 : (Cond.instanceMethod ⟨"FewerMan$Purpose", "asks", "(LFewerMan$Room;II)V"⟩ : Jvm.Cond) ∈ m_tbl := m_tbl_of (List.mem_of_getElem? (i := 672) (by decide +kernel)) rfl
theorem wd_12 : (Cond.selects "FewerMan$Purpose" ⟨"FewerMan$Purpose", "asks", "(LFewerMan$Room;II)V"⟩ ⟨"FewerMan$Purpose", "asks", "(LFewerMan$Room;II)V"⟩ : Jvm.Cond) ∈ m_tbl := m_tbl_of (List.mem_of_getElem? (i := 12) (by decide +kernel)) rfl
theorem wd_67 : (Cond.initialized "FewerMan$Purpose" : Jvm.Cond) ∈ m_tbl := m_tbl_of (List.mem_of_getElem? (i := 67) (by decide +kernel)) rfl
theorem wd_103 : (Cond.fieldLink "FewerMan$Purpose" 15 "FewerMan$Room" "men" "[I" : Jvm.Cond) ∈ m_tbl := m_tbl_of (List.mem_of_getElem? (i := 103) (by decide +kernel)) rfl
theorem wd_111 : (Cond.fieldLink "FewerMan$Purpose" 21 "FewerMan$Room" "game" "I" : Jvm.Cond) ∈ m_tbl := m_tbl_of (List.mem_of_getElem? (i := 111) (by decide +kernel)) rfl
theorem wd_674 : (Cond.methodLink "FewerMan$Purpose" 25 ⟨"FewerMan$Purpose", "best", "(LFewerMan$Purpose;IIII)J"⟩ : Jvm.Cond) ∈ m_tbl := m_tbl_of (List.mem_of_getElem? (i := 674) (by decide +kernel)) rfl
theorem wd_675 : (Cond.static ⟨"FewerMan$Purpose", "best", "(LFewerMan$Purpose;IIII)J"⟩ : Jvm.Cond) ∈ m_tbl := m_tbl_of (List.mem_of_getElem? (i := 675) (by decide +kernel)) rfl
theorem wd_683 : (Cond.methodLink "FewerMan$Purpose" 29 ⟨"FewerMan$Purpose", "ifLost", "(LFewerMan$Purpose;IIII)J"⟩ : Jvm.Cond) ∈ m_tbl := m_tbl_of (List.mem_of_getElem? (i := 683) (by decide +kernel)) rfl
theorem wd_684 : (Cond.static ⟨"FewerMan$Purpose", "ifLost", "(LFewerMan$Purpose;IIII)J"⟩ : Jvm.Cond) ∈ m_tbl := m_tbl_of (List.mem_of_getElem? (i := 684) (by decide +kernel)) rfl
theorem wd_678 : (Cond.methodLink "FewerMan$Purpose" 32 ⟨"FewerMan$Purpose", "ifWon", "(LFewerMan$Purpose;IIII)J"⟩ : Jvm.Cond) ∈ m_tbl := m_tbl_of (List.mem_of_getElem? (i := 678) (by decide +kernel)) rfl
theorem wd_679 : (Cond.static ⟨"FewerMan$Purpose", "ifWon", "(LFewerMan$Purpose;IIII)J"⟩ : Jvm.Cond) ∈ m_tbl := m_tbl_of (List.mem_of_getElem? (i := 679) (by decide +kernel)) rfl
theorem wd_262 : (Cond.fieldLink "FewerMan$Purpose" 35 "FewerMan$Purpose" "room" "LFewerMan$Room;" : Jvm.Cond) ∈ m_tbl := m_tbl_of (List.mem_of_getElem? (i := 262) (by decide +kernel)) rfl
theorem wd_263 : (Cond.fieldLink "FewerMan$Purpose" 39 "FewerMan$Purpose" "one" "I" : Jvm.Cond) ∈ m_tbl := m_tbl_of (List.mem_of_getElem? (i := 263) (by decide +kernel)) rfl
theorem wd_264 : (Cond.fieldLink "FewerMan$Purpose" 42 "FewerMan$Purpose" "other" "I" : Jvm.Cond) ∈ m_tbl := m_tbl_of (List.mem_of_getElem? (i := 264) (by decide +kernel)) rfl
theorem wd_677 : (Cond.methodLink "FewerMan$Purpose" 45 ⟨"FewerMan$Room", "oddsOf", "(IIIII)I"⟩ : Jvm.Cond) ∈ m_tbl := m_tbl_of (List.mem_of_getElem? (i := 677) (by decide +kernel)) rfl
theorem wd_686 : (Cond.constantLong "FewerMan$Purpose" 49 (10) : Jvm.Cond) ∈ m_tbl := m_tbl_of (List.mem_of_getElem? (i := 686) (by decide +kernel)) rfl
theorem wm_687 : (Cond.methodLink "FewerMan$Purpose" 51 Lib.MathLoose.max_long.x : Jvm.Cond) ∈ m_tbl := m_tbl_of (List.mem_of_getElem? (i := 687) (by decide +kernel)) rfl
theorem wm_688 : (Cond.static Lib.MathLoose.max_long.x : Jvm.Cond) ∈ m_tbl := m_tbl_of (List.mem_of_getElem? (i := 688) (by decide +kernel)) rfl
theorem wm_689 : (Cond.code Lib.MathLoose.max_long.x Lib.MathLoose.max_long.code 4 (some .long) : Jvm.Cond) ∈ m_tbl := m_tbl_of (List.mem_of_getElem? (i := 689) (by decide +kernel)) rfl
theorem wd_681 : (Cond.methodLink "FewerMan$Purpose" 57 ⟨"FewerMan$Room", "menIfWon", "(I)I"⟩ : Jvm.Cond) ∈ m_tbl := m_tbl_of (List.mem_of_getElem? (i := 681) (by decide +kernel)) rfl
theorem wd_682 : (Cond.methodLink "FewerMan$Purpose" 61 ⟨"FewerMan$Room", "menIfLost", "(I)I"⟩ : Jvm.Cond) ∈ m_tbl := m_tbl_of (List.mem_of_getElem? (i := 682) (by decide +kernel)) rfl
theorem wd_174 : (Cond.methodLink "FewerMan$Reader" 3 ⟨"java/lang/Object", "<init>", "()V"⟩ : Jvm.Cond) ∈ m_tbl := m_tbl_of (List.mem_of_getElem? (i := 174) (by decide +kernel)) rfl
theorem wd_181 : (Cond.fieldLink "FewerMan$Reader" 9 "FewerMan$Reader" "code" "[I" : Jvm.Cond) ∈ m_tbl := m_tbl_of (List.mem_of_getElem? (i := 181) (by decide +kernel)) rfl
theorem wd_185 : (Cond.fieldLink "FewerMan$Reader" 15 "FewerMan$Reader" "tape" "[I" : Jvm.Cond) ∈ m_tbl := m_tbl_of (List.mem_of_getElem? (i := 185) (by decide +kernel)) rfl
theorem wm_391 : (Cond.methodLink "FewerMan$Reader" 18 Lib.Math.min.name : Jvm.Cond) ∈ m_tbl := m_tbl_of (List.mem_of_getElem? (i := 391) (by decide +kernel)) rfl
theorem wd_186 : (Cond.fieldLink "FewerMan$Reader" 24 "FewerMan$Reader" "size" "I" : Jvm.Cond) ∈ m_tbl := m_tbl_of (List.mem_of_getElem? (i := 186) (by decide +kernel)) rfl
theorem wd_175 : (Cond.fieldLink "FewerMan$Reader" 28 "FewerMan$Reader" "at" "I" : Jvm.Cond) ∈ m_tbl := m_tbl_of (List.mem_of_getElem? (i := 175) (by decide +kernel)) rfl
theorem wd_178 : (Cond.fieldLink "FewerMan$Reader" 31 "FewerMan$Reader" "less" "I" : Jvm.Cond) ∈ m_tbl := m_tbl_of (List.mem_of_getElem? (i := 178) (by decide +kernel)) rfl
theorem wd_180 : (Cond.fieldLink "FewerMan$Reader" 34 "FewerMan$Reader" "more" "I" : Jvm.Cond) ∈ m_tbl := m_tbl_of (List.mem_of_getElem? (i := 180) (by decide +kernel)) rfl
theorem wd_184 : (Cond.fieldLink "FewerMan$Reader" 37 "FewerMan$Reader" "codeSize" "I" : Jvm.Cond) ∈ m_tbl := m_tbl_of (List.mem_of_getElem? (i := 184) (by decide +kernel)) rfl
theorem wd_394 : (Cond.methodLink "FewerMan$Reader" 40 ⟨"FewerMan$Reader", "clause", "()Z"⟩ : Jvm.Cond) ∈ m_tbl := m_tbl_of (List.mem_of_getElem? (i := 394) (by decide +kernel)) rfl
theorem wd_396 : (Cond.instanceMethod ⟨"FewerMan$Reader", "clause", "()Z"⟩ : Jvm.Cond) ∈ m_tbl := m_tbl_of (List.mem_of_getElem? (i := 396) (by decide +kernel)) rfl
theorem wd_0 : (Cond.selects "FewerMan$Reader" ⟨"FewerMan$Reader", "clause", "()Z"⟩ ⟨"FewerMan$Reader", "clause", "()Z"⟩ : Jvm.Cond) ∈ m_tbl := m_tbl_of (List.mem_of_getElem? (i := 0) (by decide +kernel)) rfl
theorem wd_64 : (Cond.initialized "FewerMan$Reader" : Jvm.Cond) ∈ m_tbl := m_tbl_of (List.mem_of_getElem? (i := 64) (by decide +kernel)) rfl
theorem wd_402 : (Cond.methodLink "FewerMan$Reader" 44 ⟨"FewerMan$Reader", "sign", "(C)Z"⟩ : Jvm.Cond) ∈ m_tbl := m_tbl_of (List.mem_of_getElem? (i := 402) (by decide +kernel)) rfl
theorem wd_404 : (Cond.instanceMethod ⟨"FewerMan$Reader", "sign", "(C)Z"⟩ : Jvm.Cond) ∈ m_tbl := m_tbl_of (List.mem_of_getElem? (i := 404) (by decide +kernel)) rfl
theorem wd_2 : (Cond.selects "FewerMan$Reader" ⟨"FewerMan$Reader", "sign", "(C)Z"⟩ ⟨"FewerMan$Reader", "sign", "(C)Z"⟩ : Jvm.Cond) ∈ m_tbl := m_tbl_of (List.mem_of_getElem? (i := 2) (by decide +kernel)) rfl
theorem wd_406 : (Cond.methodLink "FewerMan$Reader" 48 ⟨"FewerMan$Reader", "peek", "()I"⟩ : Jvm.Cond) ∈ m_tbl := m_tbl_of (List.mem_of_getElem? (i := 406) (by decide +kernel)) rfl
theorem wd_408 : (Cond.instanceMethod ⟨"FewerMan$Reader", "peek", "()I"⟩ : Jvm.Cond) ∈ m_tbl := m_tbl_of (List.mem_of_getElem? (i := 408) (by decide +kernel)) rfl
theorem wd_3 : (Cond.selects "FewerMan$Reader" ⟨"FewerMan$Reader", "peek", "()I"⟩ ⟨"FewerMan$Reader", "peek", "()I"⟩ : Jvm.Cond) ∈ m_tbl := m_tbl_of (List.mem_of_getElem? (i := 3) (by decide +kernel)) rfl
theorem wd_398 : (Cond.methodLink "FewerMan$Reader" 52 ⟨"FewerMan$Reader", "word", "()I"⟩ : Jvm.Cond) ∈ m_tbl := m_tbl_of (List.mem_of_getElem? (i := 398) (by decide +kernel)) rfl
theorem wd_400 : (Cond.instanceMethod ⟨"FewerMan$Reader", "word", "()I"⟩ : Jvm.Cond) ∈ m_tbl := m_tbl_of (List.mem_of_getElem? (i := 400) (by decide +kernel)) rfl
theorem wd_1 : (Cond.selects "FewerMan$Reader" ⟨"FewerMan$Reader", "word", "()I"⟩ ⟨"FewerMan$Reader", "word", "()I"⟩ : Jvm.Cond) ∈ m_tbl := m_tbl_of (List.mem_of_getElem? (i := 1) (by decide +kernel)) rfl
theorem wd_414 : (Cond.methodLink "FewerMan$Reader" 55 ⟨"FewerMan$Reader", "number", "()I"⟩ : Jvm.Cond) ∈ m_tbl := m_tbl_of (List.mem_of_getElem? (i := 414) (by decide +kernel)) rfl
theorem wd_416 : (Cond.instanceMethod ⟨"FewerMan$Reader", "number", "()I"⟩ : Jvm.Cond) ∈ m_tbl := m_tbl_of (List.mem_of_getElem? (i := 416) (by decide +kernel)) rfl
theorem wd_5 : (Cond.selects "FewerMan$Reader" ⟨"FewerMan$Reader", "number", "()I"⟩ ⟨"FewerMan$Reader", "number", "()I"⟩ : Jvm.Cond) ∈ m_tbl := m_tbl_of (List.mem_of_getElem? (i := 5) (by decide +kernel)) rfl
theorem wd_421 : (Cond.methodLink "FewerMan$Reader" 58 ⟨"FewerMan$Reader", "either", "(I)Z"⟩ : Jvm.Cond) ∈ m_tbl := m_tbl_of (List.mem_of_getElem? (i := 421) (by decide +kernel)) rfl
theorem wd_423 : (Cond.instanceMethod ⟨"FewerMan$Reader", "either", "(I)Z"⟩ : Jvm.Cond) ∈ m_tbl := m_tbl_of (List.mem_of_getElem? (i := 423) (by decide +kernel)) rfl
theorem wd_6 : (Cond.selects "FewerMan$Reader" ⟨"FewerMan$Reader", "either", "(I)Z"⟩ ⟨"FewerMan$Reader", "either", "(I)Z"⟩ : Jvm.Cond) ∈ m_tbl := m_tbl_of (List.mem_of_getElem? (i := 6) (by decide +kernel)) rfl
theorem wd_432 : (Cond.methodLink "FewerMan$Reader" 64 ⟨"FewerMan$Reader", "put", "(I)V"⟩ : Jvm.Cond) ∈ m_tbl := m_tbl_of (List.mem_of_getElem? (i := 432) (by decide +kernel)) rfl
theorem wd_434 : (Cond.instanceMethod ⟨"FewerMan$Reader", "put", "(I)V"⟩ : Jvm.Cond) ∈ m_tbl := m_tbl_of (List.mem_of_getElem? (i := 434) (by decide +kernel)) rfl
theorem wd_8 : (Cond.selects "FewerMan$Reader" ⟨"FewerMan$Reader", "put", "(I)V"⟩ ⟨"FewerMan$Reader", "put", "(I)V"⟩ : Jvm.Cond) ∈ m_tbl := m_tbl_of (List.mem_of_getElem? (i := 8) (by decide +kernel)) rfl
theorem wd_410 : (Cond.methodLink "FewerMan$Reader" 68 ⟨"FewerMan$Reader", "signs", "(CCC)Z"⟩ : Jvm.Cond) ∈ m_tbl := m_tbl_of (List.mem_of_getElem? (i := 410) (by decide +kernel)) rfl
theorem wd_412 : (Cond.instanceMethod ⟨"FewerMan$Reader", "signs", "(CCC)Z"⟩ : Jvm.Cond) ∈ m_tbl := m_tbl_of (List.mem_of_getElem? (i := 412) (by decide +kernel)) rfl
theorem wd_4 : (Cond.selects "FewerMan$Reader" ⟨"FewerMan$Reader", "signs", "(CCC)Z"⟩ ⟨"FewerMan$Reader", "signs", "(CCC)Z"⟩ : Jvm.Cond) ∈ m_tbl := m_tbl_of (List.mem_of_getElem? (i := 4) (by decide +kernel)) rfl
theorem wd_418 : (Cond.methodLink "FewerMan$Reader" 72 ⟨"FewerMan$Reader", "digit", "(I)I"⟩ : Jvm.Cond) ∈ m_tbl := m_tbl_of (List.mem_of_getElem? (i := 418) (by decide +kernel)) rfl
theorem wd_419 : (Cond.static ⟨"FewerMan$Reader", "digit", "(I)I"⟩ : Jvm.Cond) ∈ m_tbl := m_tbl_of (List.mem_of_getElem? (i := 419) (by decide +kernel)) rfl
theorem wd_425 : (Cond.methodLink "FewerMan$Reader" 76 ⟨"FewerMan$Reader", "both", "(I)Z"⟩ : Jvm.Cond) ∈ m_tbl := m_tbl_of (List.mem_of_getElem? (i := 425) (by decide +kernel)) rfl
theorem wd_427 : (Cond.instanceMethod ⟨"FewerMan$Reader", "both", "(I)Z"⟩ : Jvm.Cond) ∈ m_tbl := m_tbl_of (List.mem_of_getElem? (i := 427) (by decide +kernel)) rfl
theorem wd_7 : (Cond.selects "FewerMan$Reader" ⟨"FewerMan$Reader", "both", "(I)Z"⟩ ⟨"FewerMan$Reader", "both", "(I)Z"⟩ : Jvm.Cond) ∈ m_tbl := m_tbl_of (List.mem_of_getElem? (i := 7) (by decide +kernel)) rfl
theorem wd_429 : (Cond.methodLink "FewerMan$Reader" 79 ⟨"FewerMan$Reader", "one", "(LFewerMan$Reader;I)Z"⟩ : Jvm.Cond) ∈ m_tbl := m_tbl_of (List.mem_of_getElem? (i := 429) (by decide +kernel)) rfl
theorem wd_430 : (Cond.static ⟨"FewerMan$Reader", "one", "(LFewerMan$Reader;I)Z"⟩ : Jvm.Cond) ∈ m_tbl := m_tbl_of (List.mem_of_getElem? (i := 430) (by decide +kernel)) rfl
theorem wd_436 : (Cond.methodLink "FewerMan$Reader" 83 ⟨"FewerMan$Reader", "aboutOf", "(I)I"⟩ : Jvm.Cond) ∈ m_tbl := m_tbl_of (List.mem_of_getElem? (i := 436) (by decide +kernel)) rfl
theorem wd_437 : (Cond.static ⟨"FewerMan$Reader", "aboutOf", "(I)I"⟩ : Jvm.Cond) ∈ m_tbl := m_tbl_of (List.mem_of_getElem? (i := 437) (by decide +kernel)) rfl
theorem wd_439 : (Cond.methodLink "FewerMan$Reader" 86 ⟨"FewerMan$Reader", "comparisonOf", "(I)I"⟩ : Jvm.Cond) ∈ m_tbl := m_tbl_of (List.mem_of_getElem? (i := 439) (by decide +kernel)) rfl
theorem wd_440 : (Cond.static ⟨"FewerMan$Reader", "comparisonOf", "(I)I"⟩ : Jvm.Cond) ∈ m_tbl := m_tbl_of (List.mem_of_getElem? (i := 440) (by decide +kernel)) rfl
theorem wd_442 : (Cond.methodLink "FewerMan$Reader" 89 ⟨"FewerMan$Inn", "testOf", "(III)I"⟩ : Jvm.Cond) ∈ m_tbl := m_tbl_of (List.mem_of_getElem? (i := 442) (by decide +kernel)) rfl
theorem wd_443 : (Cond.static ⟨"FewerMan$Inn", "testOf", "(III)I"⟩ : Jvm.Cond) ∈ m_tbl := m_tbl_of (List.mem_of_getElem? (i := 443) (by decide +kernel)) rfl
theorem wd_93 : (Cond.methodLink "FewerMan$Room" 3 ⟨"java/lang/Object", "<init>", "()V"⟩ : Jvm.Cond) ∈ m_tbl := m_tbl_of (List.mem_of_getElem? (i := 93) (by decide +kernel)) rfl
theorem wd_98 : (Cond.fieldLink "FewerMan$Room" 9 "FewerMan$Room" "kind" "[I" : Jvm.Cond) ∈ m_tbl := m_tbl_of (List.mem_of_getElem? (i := 98) (by decide +kernel)) rfl
theorem wd_100 : (Cond.fieldLink "FewerMan$Room" 15 "FewerMan$Room" "v" "[I" : Jvm.Cond) ∈ m_tbl := m_tbl_of (List.mem_of_getElem? (i := 100) (by decide +kernel)) rfl
theorem wd_102 : (Cond.fieldLink "FewerMan$Room" 18 "FewerMan$Room" "men" "[I" : Jvm.Cond) ∈ m_tbl := m_tbl_of (List.mem_of_getElem? (i := 102) (by decide +kernel)) rfl
theorem wd_108 : (Cond.fieldLink "FewerMan$Room" 21 "FewerMan$Room" "rows" "[I" : Jvm.Cond) ∈ m_tbl := m_tbl_of (List.mem_of_getElem? (i := 108) (by decide +kernel)) rfl
theorem wd_120 : (Cond.fieldLink "FewerMan$Room" 24 "FewerMan$Room" "tape" "[I" : Jvm.Cond) ∈ m_tbl := m_tbl_of (List.mem_of_getElem? (i := 120) (by decide +kernel)) rfl
theorem wd_124 : (Cond.fieldLink "FewerMan$Room" 27 "FewerMan$Room" "bookWinner" "[I" : Jvm.Cond) ∈ m_tbl := m_tbl_of (List.mem_of_getElem? (i := 124) (by decide +kernel)) rfl
theorem wd_126 : (Cond.fieldLink "FewerMan$Room" 30 "FewerMan$Room" "bookLoser" "[I" : Jvm.Cond) ∈ m_tbl := m_tbl_of (List.mem_of_getElem? (i := 126) (by decide +kernel)) rfl
theorem wd_130 : (Cond.fieldLink "FewerMan$Room" 33 "FewerMan$Room" "tale" "[I" : Jvm.Cond) ∈ m_tbl := m_tbl_of (List.mem_of_getElem? (i := 130) (by decide +kernel)) rfl
theorem wd_134 : (Cond.fieldLink "FewerMan$Room" 38 "FewerMan$Room" "facts" "[I" : Jvm.Cond) ∈ m_tbl := m_tbl_of (List.mem_of_getElem? (i := 134) (by decide +kernel)) rfl
theorem wd_94 : (Cond.fieldLink "FewerMan$Room" 41 "FewerMan$Room" "players" "I" : Jvm.Cond) ∈ m_tbl := m_tbl_of (List.mem_of_getElem? (i := 94) (by decide +kernel)) rfl
theorem wd_751 : (Cond.methodLink "FewerMan$Room" 45 ⟨"java/lang/System", "arraycopy", "(Ljava/lang/Object;ILjava/lang/Object;II)V"⟩ : Jvm.Cond) ∈ m_tbl := m_tbl_of (List.mem_of_getElem? (i := 751) (by decide +kernel)) rfl
theorem wd_112 : (Cond.fieldLink "FewerMan$Room" 51 "FewerMan$Room" "game" "I" : Jvm.Cond) ∈ m_tbl := m_tbl_of (List.mem_of_getElem? (i := 112) (by decide +kernel)) rfl
theorem wd_116 : (Cond.fieldLink "FewerMan$Room" 54 "FewerMan$Room" "inns" "I" : Jvm.Cond) ∈ m_tbl := m_tbl_of (List.mem_of_getElem? (i := 116) (by decide +kernel)) rfl
theorem wd_118 : (Cond.fieldLink "FewerMan$Room" 57 "FewerMan$Room" "inn" "LFewerMan$Inn;" : Jvm.Cond) ∈ m_tbl := m_tbl_of (List.mem_of_getElem? (i := 118) (by decide +kernel)) rfl
theorem wd_123 : (Cond.fieldLink "FewerMan$Room" 61 "FewerMan$Room" "signs" "I" : Jvm.Cond) ∈ m_tbl := m_tbl_of (List.mem_of_getElem? (i := 123) (by decide +kernel)) rfl
theorem wd_128 : (Cond.fieldLink "FewerMan$Room" 64 "FewerMan$Room" "books" "I" : Jvm.Cond) ∈ m_tbl := m_tbl_of (List.mem_of_getElem? (i := 128) (by decide +kernel)) rfl
theorem wd_132 : (Cond.fieldLink "FewerMan$Room" 67 "FewerMan$Room" "tales" "I" : Jvm.Cond) ∈ m_tbl := m_tbl_of (List.mem_of_getElem? (i := 132) (by decide +kernel)) rfl
theorem wd_455 : (Cond.fieldLink "FewerMan$Room" 70 "FewerMan$Inn" "less" "I" : Jvm.Cond) ∈ m_tbl := m_tbl_of (List.mem_of_getElem? (i := 455) (by decide +kernel)) rfl
theorem wd_457 : (Cond.fieldLink "FewerMan$Room" 73 "FewerMan$Inn" "more" "I" : Jvm.Cond) ∈ m_tbl := m_tbl_of (List.mem_of_getElem? (i := 457) (by decide +kernel)) rfl
theorem wd_565 : (Cond.methodLink "FewerMan$Room" 76 ⟨"FewerMan$Room", "less", "()I"⟩ : Jvm.Cond) ∈ m_tbl := m_tbl_of (List.mem_of_getElem? (i := 565) (by decide +kernel)) rfl
theorem wd_501 : (Cond.instanceMethod ⟨"FewerMan$Room", "less", "()I"⟩ : Jvm.Cond) ∈ m_tbl := m_tbl_of (List.mem_of_getElem? (i := 501) (by decide +kernel)) rfl
theorem wd_502 : (Cond.selects "FewerMan$Room" ⟨"FewerMan$Room", "less", "()I"⟩ ⟨"FewerMan$Room", "less", "()I"⟩ : Jvm.Cond) ∈ m_tbl := m_tbl_of (List.mem_of_getElem? (i := 502) (by decide +kernel)) rfl
theorem wm_550 : (Cond.methodLink "FewerMan$Room" 79 Lib.Math.max.name : Jvm.Cond) ∈ m_tbl := m_tbl_of (List.mem_of_getElem? (i := 550) (by decide +kernel)) rfl
theorem wm_551 : (Cond.static Lib.Math.max.name : Jvm.Cond) ∈ m_tbl := m_tbl_of (List.mem_of_getElem? (i := 551) (by decide +kernel)) rfl
theorem wm_552 : (Cond.code Lib.Math.max.name Lib.Math.max.code 2 (some .int) : Jvm.Cond) ∈ m_tbl := m_tbl_of (List.mem_of_getElem? (i := 552) (by decide +kernel)) rfl
theorem wd_570 : (Cond.methodLink "FewerMan$Room" 85 ⟨"FewerMan$Room", "more", "()I"⟩ : Jvm.Cond) ∈ m_tbl := m_tbl_of (List.mem_of_getElem? (i := 570) (by decide +kernel)) rfl
theorem wd_505 : (Cond.instanceMethod ⟨"FewerMan$Room", "more", "()I"⟩ : Jvm.Cond) ∈ m_tbl := m_tbl_of (List.mem_of_getElem? (i := 505) (by decide +kernel)) rfl
theorem wd_506 : (Cond.selects "FewerMan$Room" ⟨"FewerMan$Room", "more", "()I"⟩ ⟨"FewerMan$Room", "more", "()I"⟩ : Jvm.Cond) ∈ m_tbl := m_tbl_of (List.mem_of_getElem? (i := 506) (by decide +kernel)) rfl
theorem wm_549 : (Cond.methodLink "FewerMan$Room" 87 Lib.Math.min.name : Jvm.Cond) ∈ m_tbl := m_tbl_of (List.mem_of_getElem? (i := 549) (by decide +kernel)) rfl
theorem wd_520 : (Cond.methodLink "FewerMan$Room" 90 ⟨"FewerMan$Inn", "lift", "([I)I"⟩ : Jvm.Cond) ∈ m_tbl := m_tbl_of (List.mem_of_getElem? (i := 520) (by decide +kernel)) rfl
theorem wd_521 : (Cond.instanceMethod ⟨"FewerMan$Inn", "lift", "([I)I"⟩ : Jvm.Cond) ∈ m_tbl := m_tbl_of (List.mem_of_getElem? (i := 521) (by decide +kernel)) rfl
theorem wd_522 : (Cond.selects "FewerMan$Inn" ⟨"FewerMan$Inn", "lift", "([I)I"⟩ ⟨"FewerMan$Inn", "lift", "([I)I"⟩ : Jvm.Cond) ∈ m_tbl := m_tbl_of (List.mem_of_getElem? (i := 522) (by decide +kernel)) rfl
theorem wd_527 : (Cond.methodLink "FewerMan$Room" 94 ⟨"FewerMan$Room", "masterly", "(II)I"⟩ : Jvm.Cond) ∈ m_tbl := m_tbl_of (List.mem_of_getElem? (i := 527) (by decide +kernel)) rfl
theorem wd_528 : (Cond.static ⟨"FewerMan$Room", "masterly", "(II)I"⟩ : Jvm.Cond) ∈ m_tbl := m_tbl_of (List.mem_of_getElem? (i := 528) (by decide +kernel)) rfl
theorem wd_530 : (Cond.methodLink "FewerMan$Room" 97 ⟨"FewerMan$Room", "slyly", "(I)I"⟩ : Jvm.Cond) ∈ m_tbl := m_tbl_of (List.mem_of_getElem? (i := 530) (by decide +kernel)) rfl
theorem wd_531 : (Cond.static ⟨"FewerMan$Room", "slyly", "(I)I"⟩ : Jvm.Cond) ∈ m_tbl := m_tbl_of (List.mem_of_getElem? (i := 531) (by decide +kernel)) rfl
theorem wd_533 : (Cond.methodLink "FewerMan$Room" 101 ⟨"FewerMan$Room", "newly", "(I)I"⟩ : Jvm.Cond) ∈ m_tbl := m_tbl_of (List.mem_of_getElem? (i := 533) (by decide +kernel)) rfl
theorem wd_534 : (Cond.static ⟨"FewerMan$Room", "newly", "(I)I"⟩ : Jvm.Cond) ∈ m_tbl := m_tbl_of (List.mem_of_getElem? (i := 534) (by decide +kernel)) rfl
theorem wd_548 : (Cond.methodLink "FewerMan$Room" 104 ⟨"FewerMan$Room", "pushOf", "(IIII)I"⟩ : Jvm.Cond) ∈ m_tbl := m_tbl_of (List.mem_of_getElem? (i := 548) (by decide +kernel)) rfl
theorem wd_517 : (Cond.instanceMethod ⟨"FewerMan$Room", "pushOf", "(IIII)I"⟩ : Jvm.Cond) ∈ m_tbl := m_tbl_of (List.mem_of_getElem? (i := 517) (by decide +kernel)) rfl
theorem wd_518 : (Cond.selects "FewerMan$Room" ⟨"FewerMan$Room", "pushOf", "(IIII)I"⟩ ⟨"FewerMan$Room", "pushOf", "(IIII)I"⟩ : Jvm.Cond) ∈ m_tbl := m_tbl_of (List.mem_of_getElem? (i := 518) (by decide +kernel)) rfl
theorem wd_544 : (Cond.methodLink "FewerMan$Room" 108 ⟨"FewerMan$Room", "oddsOf", "(IIIII)I"⟩ : Jvm.Cond) ∈ m_tbl := m_tbl_of (List.mem_of_getElem? (i := 544) (by decide +kernel)) rfl
theorem wd_561 : (Cond.methodLink "FewerMan$Room" 112 ⟨"FewerMan$Room", "menIfWon", "(I)I"⟩ : Jvm.Cond) ∈ m_tbl := m_tbl_of (List.mem_of_getElem? (i := 561) (by decide +kernel)) rfl
theorem wd_566 : (Cond.methodLink "FewerMan$Room" 115 ⟨"FewerMan$Room", "menIfLost", "(I)I"⟩ : Jvm.Cond) ∈ m_tbl := m_tbl_of (List.mem_of_getElem? (i := 566) (by decide +kernel)) rfl
theorem wd_781 : (Cond.methodLink "FewerMan$Room" 118 ⟨"FewerMan$Room", "oddsNow", "(II)I"⟩ : Jvm.Cond) ∈ m_tbl := m_tbl_of (List.mem_of_getElem? (i := 781) (by decide +kernel)) rfl
theorem wd_541 : (Cond.instanceMethod ⟨"FewerMan$Room", "oddsNow", "(II)I"⟩ : Jvm.Cond) ∈ m_tbl := m_tbl_of (List.mem_of_getElem? (i := 541) (by decide +kernel)) rfl
theorem wd_542 : (Cond.selects "FewerMan$Room" ⟨"FewerMan$Room", "oddsNow", "(II)I"⟩ ⟨"FewerMan$Room", "oddsNow", "(II)I"⟩ : Jvm.Cond) ∈ m_tbl := m_tbl_of (List.mem_of_getElem? (i := 542) (by decide +kernel)) rfl
theorem wd_786 : (Cond.methodLink "FewerMan$Room" 121 ⟨"FewerMan$Room", "game", "(IIZ)V"⟩ : Jvm.Cond) ∈ m_tbl := m_tbl_of (List.mem_of_getElem? (i := 786) (by decide +kernel)) rfl
theorem wd_558 : (Cond.instanceMethod ⟨"FewerMan$Room", "game", "(IIZ)V"⟩ : Jvm.Cond) ∈ m_tbl := m_tbl_of (List.mem_of_getElem? (i := 558) (by decide +kernel)) rfl
theorem wd_559 : (Cond.selects "FewerMan$Room" ⟨"FewerMan$Room", "game", "(IIZ)V"⟩ ⟨"FewerMan$Room", "game", "(IIZ)V"⟩ : Jvm.Cond) ∈ m_tbl := m_tbl_of (List.mem_of_getElem? (i := 559) (by decide +kernel)) rfl
theorem wd_310 : (Cond.methodLink "FewerMan$Seats" 3 ⟨"java/lang/Object", "<init>", "()V"⟩ : Jvm.Cond) ∈ m_tbl := m_tbl_of (List.mem_of_getElem? (i := 310) (by decide +kernel)) rfl
theorem wd_311 : (Cond.fieldLink "FewerMan$Seats" 9 "FewerMan$Seats" "waiting" "[I" : Jvm.Cond) ∈ m_tbl := m_tbl_of (List.mem_of_getElem? (i := 311) (by decide +kernel)) rfl
theorem wd_312 : (Cond.fieldLink "FewerMan$Seats" 15 "FewerMan$Seats" "room" "LFewerMan$Room;" : Jvm.Cond) ∈ m_tbl := m_tbl_of (List.mem_of_getElem? (i := 312) (by decide +kernel)) rfl
theorem wd_313 : (Cond.fieldLink "FewerMan$Seats" 19 "FewerMan$Seats" "player" "I" : Jvm.Cond) ∈ m_tbl := m_tbl_of (List.mem_of_getElem? (i := 313) (by decide +kernel)) rfl
theorem wd_314 : (Cond.fieldLink "FewerMan$Seats" 23 "FewerMan$Seats" "games" "I" : Jvm.Cond) ∈ m_tbl := m_tbl_of (List.mem_of_getElem? (i := 314) (by decide +kernel)) rfl
theorem wd_95 : (Cond.fieldLink "FewerMan$Seats" 26 "FewerMan$Room" "players" "I" : Jvm.Cond) ∈ m_tbl := m_tbl_of (List.mem_of_getElem? (i := 95) (by decide +kernel)) rfl
theorem wd_756 : (Cond.methodLink "FewerMan$Seats" 31 ⟨"FewerMan$Seats", "wonFrom", "(LFewerMan$Seats;III)J"⟩ : Jvm.Cond) ∈ m_tbl := m_tbl_of (List.mem_of_getElem? (i := 756) (by decide +kernel)) rfl
theorem wd_757 : (Cond.static ⟨"FewerMan$Seats", "wonFrom", "(LFewerMan$Seats;III)J"⟩ : Jvm.Cond) ∈ m_tbl := m_tbl_of (List.mem_of_getElem? (i := 757) (by decide +kernel)) rfl
theorem wd_69 : (Cond.initialized "FewerMan$Seats" : Jvm.Cond) ∈ m_tbl := m_tbl_of (List.mem_of_getElem? (i := 69) (by decide +kernel)) rfl
theorem wd_759 : (Cond.methodLink "FewerMan$Seats" 35 ⟨"FewerMan$Room", "oddsNow", "(II)I"⟩ : Jvm.Cond) ∈ m_tbl := m_tbl_of (List.mem_of_getElem? (i := 759) (by decide +kernel)) rfl
theorem wd_106 : (Cond.fieldLink "FewerMan$Seats" 39 "FewerMan$Room" "men" "[I" : Jvm.Cond) ∈ m_tbl := m_tbl_of (List.mem_of_getElem? (i := 106) (by decide +kernel)) rfl
theorem wd_760 : (Cond.methodLink "FewerMan$Seats" 42 ⟨"FewerMan$Room", "game", "(IIZ)V"⟩ : Jvm.Cond) ∈ m_tbl := m_tbl_of (List.mem_of_getElem? (i := 760) (by decide +kernel)) rfl
theorem wd_761 : (Cond.methodLink "FewerMan$Seats" 46 ⟨"FewerMan$Seats", "comesFor", "(II)I"⟩ : Jvm.Cond) ∈ m_tbl := m_tbl_of (List.mem_of_getElem? (i := 761) (by decide +kernel)) rfl
theorem wd_763 : (Cond.instanceMethod ⟨"FewerMan$Seats", "comesFor", "(II)I"⟩ : Jvm.Cond) ∈ m_tbl := m_tbl_of (List.mem_of_getElem? (i := 763) (by decide +kernel)) rfl
theorem wd_15 : (Cond.selects "FewerMan$Seats" ⟨"FewerMan$Seats", "comesFor", "(II)I"⟩ ⟨"FewerMan$Seats", "comesFor", "(II)I"⟩ : Jvm.Cond) ∈ m_tbl := m_tbl_of (List.mem_of_getElem? (i := 15) (by decide +kernel)) rfl
theorem wd_765 : (Cond.methodLink "FewerMan$Seats" 49 ⟨"FewerMan$Seats", "goesBack", "(IIII)V"⟩ : Jvm.Cond) ∈ m_tbl := m_tbl_of (List.mem_of_getElem? (i := 765) (by decide +kernel)) rfl
theorem wd_767 : (Cond.instanceMethod ⟨"FewerMan$Seats", "goesBack", "(IIII)V"⟩ : Jvm.Cond) ∈ m_tbl := m_tbl_of (List.mem_of_getElem? (i := 767) (by decide +kernel)) rfl
theorem wd_16 : (Cond.selects "FewerMan$Seats" ⟨"FewerMan$Seats", "goesBack", "(IIII)V"⟩ ⟨"FewerMan$Seats", "goesBack", "(IIII)V"⟩ : Jvm.Cond) ∈ m_tbl := m_tbl_of (List.mem_of_getElem? (i := 16) (by decide +kernel)) rfl
theorem wd_114 : (Cond.fieldLink "FewerMan$Seats" 53 "FewerMan$Room" "game" "I" : Jvm.Cond) ∈ m_tbl := m_tbl_of (List.mem_of_getElem? (i := 114) (by decide +kernel)) rfl
theorem wd_85 : (Cond.methodLink "FewerMan" 3 ⟨"java/lang/Object", "<init>", "()V"⟩ : Jvm.Cond) ∈ m_tbl := m_tbl_of (List.mem_of_getElem? (i := 85) (by decide +kernel)) rfl
theorem wd_88 : (Cond.classLink "FewerMan" 9 "FewerMan$Room" : Jvm.Cond) ∈ m_tbl := m_tbl_of (List.mem_of_getElem? (i := 88) (by decide +kernel)) rfl
theorem wd_89 : (Cond.instantiable "FewerMan$Room" 16 : Jvm.Cond) ∈ m_tbl := m_tbl_of (List.mem_of_getElem? (i := 89) (by decide +kernel)) rfl
theorem wd_91 : (Cond.instanceMethod ⟨"FewerMan$Room", "<init>", "()V"⟩ : Jvm.Cond) ∈ m_tbl := m_tbl_of (List.mem_of_getElem? (i := 91) (by decide +kernel)) rfl
theorem wd_348 : (Cond.fieldLink "FewerMan" 12 "FewerMan" "room" "LFewerMan$Room;" : Jvm.Cond) ∈ m_tbl := m_tbl_of (List.mem_of_getElem? (i := 348) (by decide +kernel)) rfl
theorem wd_349 : (Cond.fieldLink "FewerMan" 18 "FewerMan" "image" "LFewerMan$Room;" : Jvm.Cond) ∈ m_tbl := m_tbl_of (List.mem_of_getElem? (i := 349) (by decide +kernel)) rfl
theorem wd_350 : (Cond.fieldLink "FewerMan" 21 "FewerMan" "maybe" "LFewerMan$Room;" : Jvm.Cond) ∈ m_tbl := m_tbl_of (List.mem_of_getElem? (i := 350) (by decide +kernel)) rfl
theorem wd_169 : (Cond.classLink "FewerMan" 24 "FewerMan$Reader" : Jvm.Cond) ∈ m_tbl := m_tbl_of (List.mem_of_getElem? (i := 169) (by decide +kernel)) rfl
theorem wd_170 : (Cond.instantiable "FewerMan$Reader" 7 : Jvm.Cond) ∈ m_tbl := m_tbl_of (List.mem_of_getElem? (i := 170) (by decide +kernel)) rfl
theorem wd_172 : (Cond.instanceMethod ⟨"FewerMan$Reader", "<init>", "()V"⟩ : Jvm.Cond) ∈ m_tbl := m_tbl_of (List.mem_of_getElem? (i := 172) (by decide +kernel)) rfl
theorem wd_351 : (Cond.fieldLink "FewerMan" 27 "FewerMan" "reader" "LFewerMan$Reader;" : Jvm.Cond) ∈ m_tbl := m_tbl_of (List.mem_of_getElem? (i := 351) (by decide +kernel)) rfl
theorem wd_202 : (Cond.classLink "FewerMan" 31 "FewerMan$Duel" : Jvm.Cond) ∈ m_tbl := m_tbl_of (List.mem_of_getElem? (i := 202) (by decide +kernel)) rfl
theorem wd_203 : (Cond.instantiable "FewerMan$Duel" 8 : Jvm.Cond) ∈ m_tbl := m_tbl_of (List.mem_of_getElem? (i := 203) (by decide +kernel)) rfl
theorem wd_205 : (Cond.instanceMethod ⟨"FewerMan$Duel", "<init>", "()V"⟩ : Jvm.Cond) ∈ m_tbl := m_tbl_of (List.mem_of_getElem? (i := 205) (by decide +kernel)) rfl
theorem wd_352 : (Cond.fieldLink "FewerMan" 34 "FewerMan" "duel" "LFewerMan$Duel;" : Jvm.Cond) ∈ m_tbl := m_tbl_of (List.mem_of_getElem? (i := 352) (by decide +kernel)) rfl
theorem wd_256 : (Cond.classLink "FewerMan" 38 "FewerMan$Purpose" : Jvm.Cond) ∈ m_tbl := m_tbl_of (List.mem_of_getElem? (i := 256) (by decide +kernel)) rfl
theorem wd_257 : (Cond.instantiable "FewerMan$Purpose" 3 : Jvm.Cond) ∈ m_tbl := m_tbl_of (List.mem_of_getElem? (i := 257) (by decide +kernel)) rfl
theorem wd_259 : (Cond.instanceMethod ⟨"FewerMan$Purpose", "<init>", "()V"⟩ : Jvm.Cond) ∈ m_tbl := m_tbl_of (List.mem_of_getElem? (i := 259) (by decide +kernel)) rfl
theorem wd_353 : (Cond.fieldLink "FewerMan" 41 "FewerMan" "purpose" "LFewerMan$Purpose;" : Jvm.Cond) ∈ m_tbl := m_tbl_of (List.mem_of_getElem? (i := 353) (by decide +kernel)) rfl
theorem wd_272 : (Cond.classLink "FewerMan" 45 "FewerMan$Orders" : Jvm.Cond) ∈ m_tbl := m_tbl_of (List.mem_of_getElem? (i := 272) (by decide +kernel)) rfl
theorem wd_273 : (Cond.instantiable "FewerMan$Orders" 7 : Jvm.Cond) ∈ m_tbl := m_tbl_of (List.mem_of_getElem? (i := 273) (by decide +kernel)) rfl
theorem wd_275 : (Cond.instanceMethod ⟨"FewerMan$Orders", "<init>", "()V"⟩ : Jvm.Cond) ∈ m_tbl := m_tbl_of (List.mem_of_getElem? (i := 275) (by decide +kernel)) rfl
theorem wd_354 : (Cond.fieldLink "FewerMan" 48 "FewerMan" "orders" "LFewerMan$Orders;" : Jvm.Cond) ∈ m_tbl := m_tbl_of (List.mem_of_getElem? (i := 354) (by decide +kernel)) rfl
theorem wd_305 : (Cond.classLink "FewerMan" 52 "FewerMan$Seats" : Jvm.Cond) ∈ m_tbl := m_tbl_of (List.mem_of_getElem? (i := 305) (by decide +kernel)) rfl
theorem wd_306 : (Cond.instantiable "FewerMan$Seats" 4 : Jvm.Cond) ∈ m_tbl := m_tbl_of (List.mem_of_getElem? (i := 306) (by decide +kernel)) rfl
theorem wd_308 : (Cond.instanceMethod ⟨"FewerMan$Seats", "<init>", "()V"⟩ : Jvm.Cond) ∈ m_tbl := m_tbl_of (List.mem_of_getElem? (i := 308) (by decide +kernel)) rfl
theorem wd_355 : (Cond.fieldLink "FewerMan" 55 "FewerMan" "seats" "LFewerMan$Seats;" : Jvm.Cond) ∈ m_tbl := m_tbl_of (List.mem_of_getElem? (i := 355) (by decide +kernel)) rfl
theorem wd_324 : (Cond.classLink "FewerMan" 59 "FewerMan$Acts" : Jvm.Cond) ∈ m_tbl := m_tbl_of (List.mem_of_getElem? (i := 324) (by decide +kernel)) rfl
theorem wd_325 : (Cond.instantiable "FewerMan$Acts" 5 : Jvm.Cond) ∈ m_tbl := m_tbl_of (List.mem_of_getElem? (i := 325) (by decide +kernel)) rfl
theorem wd_327 : (Cond.instanceMethod ⟨"FewerMan$Acts", "<init>", "()V"⟩ : Jvm.Cond) ∈ m_tbl := m_tbl_of (List.mem_of_getElem? (i := 327) (by decide +kernel)) rfl
theorem wd_356 : (Cond.fieldLink "FewerMan" 62 "FewerMan" "acts" "LFewerMan$Acts;" : Jvm.Cond) ∈ m_tbl := m_tbl_of (List.mem_of_getElem? (i := 356) (by decide +kernel)) rfl
theorem wd_122 : (Cond.fieldLink "FewerMan" 66 "FewerMan$Room" "signs" "I" : Jvm.Cond) ∈ m_tbl := m_tbl_of (List.mem_of_getElem? (i := 122) (by decide +kernel)) rfl
theorem wd_121 : (Cond.fieldLink "FewerMan" 70 "FewerMan$Room" "tape" "[I" : Jvm.Cond) ∈ m_tbl := m_tbl_of (List.mem_of_getElem? (i := 121) (by decide +kernel)) rfl
theorem wd_117 : (Cond.fieldLink "FewerMan" 74 "FewerMan$Room" "inns" "I" : Jvm.Cond) ∈ m_tbl := m_tbl_of (List.mem_of_getElem? (i := 117) (by decide +kernel)) rfl
theorem wd_387 : (Cond.methodLink "FewerMan" 77 ⟨"FewerMan$Reader", "reads", "([II)Z"⟩ : Jvm.Cond) ∈ m_tbl := m_tbl_of (List.mem_of_getElem? (i := 387) (by decide +kernel)) rfl
theorem wd_388 : (Cond.instanceMethod ⟨"FewerMan$Reader", "reads", "([II)Z"⟩ : Jvm.Cond) ∈ m_tbl := m_tbl_of (List.mem_of_getElem? (i := 388) (by decide +kernel)) rfl
theorem wd_389 : (Cond.selects "FewerMan$Reader" ⟨"FewerMan$Reader", "reads", "([II)Z"⟩ ⟨"FewerMan$Reader", "reads", "([II)Z"⟩ : Jvm.Cond) ∈ m_tbl := m_tbl_of (List.mem_of_getElem? (i := 389) (by decide +kernel)) rfl
theorem wd_176 : (Cond.fieldLink "FewerMan" 81 "FewerMan$Reader" "at" "I" : Jvm.Cond) ∈ m_tbl := m_tbl_of (List.mem_of_getElem? (i := 176) (by decide +kernel)) rfl
theorem wd_445 : (Cond.classLink "FewerMan" 84 "FewerMan$Inn" : Jvm.Cond) ∈ m_tbl := m_tbl_of (List.mem_of_getElem? (i := 445) (by decide +kernel)) rfl
theorem wd_446 : (Cond.instantiable "FewerMan$Inn" 3 : Jvm.Cond) ∈ m_tbl := m_tbl_of (List.mem_of_getElem? (i := 446) (by decide +kernel)) rfl
theorem wd_447 : (Cond.methodLink "FewerMan" 86 ⟨"FewerMan$Inn", "<init>", "(LFewerMan$Reader;)V"⟩ : Jvm.Cond) ∈ m_tbl := m_tbl_of (List.mem_of_getElem? (i := 447) (by decide +kernel)) rfl
theorem wd_448 : (Cond.instanceMethod ⟨"FewerMan$Inn", "<init>", "(LFewerMan$Reader;)V"⟩ : Jvm.Cond) ∈ m_tbl := m_tbl_of (List.mem_of_getElem? (i := 448) (by decide +kernel)) rfl
theorem wd_119 : (Cond.fieldLink "FewerMan" 89 "FewerMan$Room" "inn" "LFewerMan$Inn;" : Jvm.Cond) ∈ m_tbl := m_tbl_of (List.mem_of_getElem? (i := 119) (by decide +kernel)) rfl
theorem wd_470 : (Cond.methodLink "FewerMan" 93 ⟨"FewerMan", "isNoKind", "(I)Z"⟩ : Jvm.Cond) ∈ m_tbl := m_tbl_of (List.mem_of_getElem? (i := 470) (by decide +kernel)) rfl
theorem wd_471 : (Cond.static ⟨"FewerMan", "isNoKind", "(I)Z"⟩ : Jvm.Cond) ∈ m_tbl := m_tbl_of (List.mem_of_getElem? (i := 471) (by decide +kernel)) rfl
theorem wd_62 : (Cond.initialized "FewerMan" : Jvm.Cond) ∈ m_tbl := m_tbl_of (List.mem_of_getElem? (i := 62) (by decide +kernel)) rfl
theorem wd_97 : (Cond.fieldLink "FewerMan" 97 "FewerMan$Room" "players" "I" : Jvm.Cond) ∈ m_tbl := m_tbl_of (List.mem_of_getElem? (i := 97) (by decide +kernel)) rfl
theorem wd_473 : (Cond.methodLink "FewerMan" 100 ⟨"FewerMan$Room", "comes", "(II)V"⟩ : Jvm.Cond) ∈ m_tbl := m_tbl_of (List.mem_of_getElem? (i := 473) (by decide +kernel)) rfl
theorem wd_474 : (Cond.instanceMethod ⟨"FewerMan$Room", "comes", "(II)V"⟩ : Jvm.Cond) ∈ m_tbl := m_tbl_of (List.mem_of_getElem? (i := 474) (by decide +kernel)) rfl
theorem wd_475 : (Cond.selects "FewerMan$Room" ⟨"FewerMan$Room", "comes", "(II)V"⟩ ⟨"FewerMan$Room", "comes", "(II)V"⟩ : Jvm.Cond) ∈ m_tbl := m_tbl_of (List.mem_of_getElem? (i := 475) (by decide +kernel)) rfl
theorem wd_481 : (Cond.methodLink "FewerMan" 104 ⟨"FewerMan", "isNobody", "(I)Z"⟩ : Jvm.Cond) ∈ m_tbl := m_tbl_of (List.mem_of_getElem? (i := 481) (by decide +kernel)) rfl
theorem wd_483 : (Cond.instanceMethod ⟨"FewerMan", "isNobody", "(I)Z"⟩ : Jvm.Cond) ∈ m_tbl := m_tbl_of (List.mem_of_getElem? (i := 483) (by decide +kernel)) rfl
theorem wd_9 : (Cond.selects "FewerMan" ⟨"FewerMan", "isNobody", "(I)Z"⟩ ⟨"FewerMan", "isNobody", "(I)Z"⟩ : Jvm.Cond) ∈ m_tbl := m_tbl_of (List.mem_of_getElem? (i := 9) (by decide +kernel)) rfl
theorem wd_99 : (Cond.fieldLink "FewerMan" 107 "FewerMan$Room" "kind" "[I" : Jvm.Cond) ∈ m_tbl := m_tbl_of (List.mem_of_getElem? (i := 99) (by decide +kernel)) rfl
theorem wd_101 : (Cond.fieldLink "FewerMan" 110 "FewerMan$Room" "v" "[I" : Jvm.Cond) ∈ m_tbl := m_tbl_of (List.mem_of_getElem? (i := 101) (by decide +kernel)) rfl
theorem wd_107 : (Cond.fieldLink "FewerMan" 113 "FewerMan$Room" "men" "[I" : Jvm.Cond) ∈ m_tbl := m_tbl_of (List.mem_of_getElem? (i := 107) (by decide +kernel)) rfl
theorem wd_489 : (Cond.methodLink "FewerMan" 116 ⟨"FewerMan", "isNoMen", "(I)Z"⟩ : Jvm.Cond) ∈ m_tbl := m_tbl_of (List.mem_of_getElem? (i := 489) (by decide +kernel)) rfl
theorem wd_490 : (Cond.static ⟨"FewerMan", "isNoMen", "(I)Z"⟩ : Jvm.Cond) ∈ m_tbl := m_tbl_of (List.mem_of_getElem? (i := 490) (by decide +kernel)) rfl
theorem wd_109 : (Cond.fieldLink "FewerMan" 119 "FewerMan$Room" "rows" "[I" : Jvm.Cond) ∈ m_tbl := m_tbl_of (List.mem_of_getElem? (i := 109) (by decide +kernel)) rfl
theorem wd_115 : (Cond.fieldLink "FewerMan" 122 "FewerMan$Room" "game" "I" : Jvm.Cond) ∈ m_tbl := m_tbl_of (List.mem_of_getElem? (i := 115) (by decide +kernel)) rfl
theorem wd_500 : (Cond.methodLink "FewerMan" 125 ⟨"FewerMan$Room", "less", "()I"⟩ : Jvm.Cond) ∈ m_tbl := m_tbl_of (List.mem_of_getElem? (i := 500) (by decide +kernel)) rfl
theorem wd_504 : (Cond.methodLink "FewerMan" 129 ⟨"FewerMan$Room", "more", "()I"⟩ : Jvm.Cond) ∈ m_tbl := m_tbl_of (List.mem_of_getElem? (i := 504) (by decide +kernel)) rfl
theorem wd_512 : (Cond.methodLink "FewerMan" 132 ⟨"FewerMan", "refusal", "(II)I"⟩ : Jvm.Cond) ∈ m_tbl := m_tbl_of (List.mem_of_getElem? (i := 512) (by decide +kernel)) rfl
theorem wd_514 : (Cond.instanceMethod ⟨"FewerMan", "refusal", "(II)I"⟩ : Jvm.Cond) ∈ m_tbl := m_tbl_of (List.mem_of_getElem? (i := 514) (by decide +kernel)) rfl
theorem wd_10 : (Cond.selects "FewerMan" ⟨"FewerMan", "refusal", "(II)I"⟩ ⟨"FewerMan", "refusal", "(II)I"⟩ : Jvm.Cond) ∈ m_tbl := m_tbl_of (List.mem_of_getElem? (i := 10) (by decide +kernel)) rfl
theorem wd_516 : (Cond.methodLink "FewerMan" 136 ⟨"FewerMan$Room", "pushOf", "(IIII)I"⟩ : Jvm.Cond) ∈ m_tbl := m_tbl_of (List.mem_of_getElem? (i := 516) (by decide +kernel)) rfl
theorem wd_540 : (Cond.methodLink "FewerMan" 140 ⟨"FewerMan$Room", "oddsNow", "(II)I"⟩ : Jvm.Cond) ∈ m_tbl := m_tbl_of (List.mem_of_getElem? (i := 540) (by decide +kernel)) rfl
theorem wd_557 : (Cond.methodLink "FewerMan" 143 ⟨"FewerMan$Room", "game", "(IIZ)V"⟩ : Jvm.Cond) ∈ m_tbl := m_tbl_of (List.mem_of_getElem? (i := 557) (by decide +kernel)) rfl
theorem wd_575 : (Cond.methodLink "FewerMan" 146 ⟨"FewerMan", "isNoPart", "(I)Z"⟩ : Jvm.Cond) ∈ m_tbl := m_tbl_of (List.mem_of_getElem? (i := 575) (by decide +kernel)) rfl
theorem wd_576 : (Cond.static ⟨"FewerMan", "isNoPart", "(I)Z"⟩ : Jvm.Cond) ∈ m_tbl := m_tbl_of (List.mem_of_getElem? (i := 576) (by decide +kernel)) rfl
theorem wd_578 : (Cond.constantLong "FewerMan" 149 (-9223372036854775808) : Jvm.Cond) ∈ m_tbl := m_tbl_of (List.mem_of_getElem? (i := 578) (by decide +kernel)) rfl
theorem wd_579 : (Cond.methodLink "FewerMan" 151 ⟨"FewerMan$Duel", "begins", "(LFewerMan$Room;IIZ)V"⟩ : Jvm.Cond) ∈ m_tbl := m_tbl_of (List.mem_of_getElem? (i := 579) (by decide +kernel)) rfl
theorem wd_580 : (Cond.instanceMethod ⟨"FewerMan$Duel", "begins", "(LFewerMan$Room;IIZ)V"⟩ : Jvm.Cond) ∈ m_tbl := m_tbl_of (List.mem_of_getElem? (i := 580) (by decide +kernel)) rfl
theorem wd_581 : (Cond.selects "FewerMan$Duel" ⟨"FewerMan$Duel", "begins", "(LFewerMan$Room;IIZ)V"⟩ ⟨"FewerMan$Duel", "begins", "(LFewerMan$Room;IIZ)V"⟩ : Jvm.Cond) ∈ m_tbl := m_tbl_of (List.mem_of_getElem? (i := 581) (by decide +kernel)) rfl
theorem wd_594 : (Cond.methodLink "FewerMan" 155 ⟨"FewerMan$Duel", "goesOn", "()V"⟩ : Jvm.Cond) ∈ m_tbl := m_tbl_of (List.mem_of_getElem? (i := 594) (by decide +kernel)) rfl
theorem wd_595 : (Cond.instanceMethod ⟨"FewerMan$Duel", "goesOn", "()V"⟩ : Jvm.Cond) ∈ m_tbl := m_tbl_of (List.mem_of_getElem? (i := 595) (by decide +kernel)) rfl
theorem wd_596 : (Cond.selects "FewerMan$Duel" ⟨"FewerMan$Duel", "goesOn", "()V"⟩ ⟨"FewerMan$Duel", "goesOn", "()V"⟩ : Jvm.Cond) ∈ m_tbl := m_tbl_of (List.mem_of_getElem? (i := 596) (by decide +kernel)) rfl
theorem wd_616 : (Cond.methodLink "FewerMan" 158 ⟨"FewerMan$Duel", "takesWon", "(I)J"⟩ : Jvm.Cond) ∈ m_tbl := m_tbl_of (List.mem_of_getElem? (i := 616) (by decide +kernel)) rfl
theorem wd_617 : (Cond.instanceMethod ⟨"FewerMan$Duel", "takesWon", "(I)J"⟩ : Jvm.Cond) ∈ m_tbl := m_tbl_of (List.mem_of_getElem? (i := 617) (by decide +kernel)) rfl
theorem wd_618 : (Cond.selects "FewerMan$Duel" ⟨"FewerMan$Duel", "takesWon", "(I)J"⟩ ⟨"FewerMan$Duel", "takesWon", "(I)J"⟩ : Jvm.Cond) ∈ m_tbl := m_tbl_of (List.mem_of_getElem? (i := 618) (by decide +kernel)) rfl
theorem wd_624 : (Cond.methodLink "FewerMan" 162 ⟨"FewerMan", "powerOfTen", "(I)J"⟩ : Jvm.Cond) ∈ m_tbl := m_tbl_of (List.mem_of_getElem? (i := 624) (by decide +kernel)) rfl
theorem wd_625 : (Cond.static ⟨"FewerMan", "powerOfTen", "(I)J"⟩ : Jvm.Cond) ∈ m_tbl := m_tbl_of (List.mem_of_getElem? (i := 625) (by decide +kernel)) rfl
theorem wd_628 : (Cond.methodLink "FewerMan" 165 ⟨"FewerMan", "partOf", "(JJI)J"⟩ : Jvm.Cond) ∈ m_tbl := m_tbl_of (List.mem_of_getElem? (i := 628) (by decide +kernel)) rfl
theorem wd_629 : (Cond.static ⟨"FewerMan", "partOf", "(JJI)J"⟩ : Jvm.Cond) ∈ m_tbl := m_tbl_of (List.mem_of_getElem? (i := 629) (by decide +kernel)) rfl
theorem wd_638 : (Cond.methodLink "FewerMan" 169 ⟨"FewerMan$Duel", "menOfOne", "()J"⟩ : Jvm.Cond) ∈ m_tbl := m_tbl_of (List.mem_of_getElem? (i := 638) (by decide +kernel)) rfl
theorem wd_639 : (Cond.instanceMethod ⟨"FewerMan$Duel", "menOfOne", "()J"⟩ : Jvm.Cond) ∈ m_tbl := m_tbl_of (List.mem_of_getElem? (i := 639) (by decide +kernel)) rfl
theorem wd_640 : (Cond.selects "FewerMan$Duel" ⟨"FewerMan$Duel", "menOfOne", "()J"⟩ ⟨"FewerMan$Duel", "menOfOne", "()J"⟩ : Jvm.Cond) ∈ m_tbl := m_tbl_of (List.mem_of_getElem? (i := 640) (by decide +kernel)) rfl
theorem wd_627 : (Cond.constantLong "FewerMan" 173 (10) : Jvm.Cond) ∈ m_tbl := m_tbl_of (List.mem_of_getElem? (i := 627) (by decide +kernel)) rfl
theorem wd_650 : (Cond.methodLink "FewerMan" 175 ⟨"FewerMan$Duel", "takesEnded", "()J"⟩ : Jvm.Cond) ∈ m_tbl := m_tbl_of (List.mem_of_getElem? (i := 650) (by decide +kernel)) rfl
theorem wd_651 : (Cond.instanceMethod ⟨"FewerMan$Duel", "takesEnded", "()J"⟩ : Jvm.Cond) ∈ m_tbl := m_tbl_of (List.mem_of_getElem? (i := 651) (by decide +kernel)) rfl
theorem wd_652 : (Cond.selects "FewerMan$Duel" ⟨"FewerMan$Duel", "takesEnded", "()J"⟩ ⟨"FewerMan$Duel", "takesEnded", "()J"⟩ : Jvm.Cond) ∈ m_tbl := m_tbl_of (List.mem_of_getElem? (i := 652) (by decide +kernel)) rfl
theorem wd_658 : (Cond.methodLink "FewerMan" 178 ⟨"FewerMan$Room", "oddsOf", "(IIIII)I"⟩ : Jvm.Cond) ∈ m_tbl := m_tbl_of (List.mem_of_getElem? (i := 658) (by decide +kernel)) rfl
theorem wm_659 : (Cond.methodLink "FewerMan" 182 Lib.Math.abs.name : Jvm.Cond) ∈ m_tbl := m_tbl_of (List.mem_of_getElem? (i := 659) (by decide +kernel)) rfl
theorem wm_660 : (Cond.static Lib.Math.abs.name : Jvm.Cond) ∈ m_tbl := m_tbl_of (List.mem_of_getElem? (i := 660) (by decide +kernel)) rfl
theorem wm_661 : (Cond.code Lib.Math.abs.name Lib.Math.abs.code 1 (some .int) : Jvm.Cond) ∈ m_tbl := m_tbl_of (List.mem_of_getElem? (i := 661) (by decide +kernel)) rfl
theorem wd_666 : (Cond.methodLink "FewerMan" 188 ⟨"FewerMan$Purpose", "atBest", "(LFewerMan$Room;III)J"⟩ : Jvm.Cond) ∈ m_tbl := m_tbl_of (List.mem_of_getElem? (i := 666) (by decide +kernel)) rfl
theorem wd_667 : (Cond.instanceMethod ⟨"FewerMan$Purpose", "atBest", "(LFewerMan$Room;III)J"⟩ : Jvm.Cond) ∈ m_tbl := m_tbl_of (List.mem_of_getElem? (i := 667) (by decide +kernel)) rfl
theorem wd_668 : (Cond.selects "FewerMan$Purpose" ⟨"FewerMan$Purpose", "atBest", "(LFewerMan$Room;III)J"⟩ ⟨"FewerMan$Purpose", "atBest", "(LFewerMan$Room;III)J"⟩ : Jvm.Cond) ∈ m_tbl := m_tbl_of (List.mem_of_getElem? (i := 668) (by decide +kernel)) rfl
theorem wd_694 : (Cond.methodLink "FewerMan" 192 ⟨"FewerMan$Purpose", "losesFirst", "(LFewerMan$Room;III)Z"⟩ : Jvm.Cond) ∈ m_tbl := m_tbl_of (List.mem_of_getElem? (i := 694) (by decide +kernel)) rfl
theorem wd_695 : (Cond.instanceMethod ⟨"FewerMan$Purpose", "losesFirst", "(LFewerMan$Room;III)Z"⟩ : Jvm.Cond) ∈ m_tbl := m_tbl_of (List.mem_of_getElem? (i := 695) (by decide +kernel)) rfl
theorem wd_696 : (Cond.selects "FewerMan$Purpose" ⟨"FewerMan$Purpose", "losesFirst", "(LFewerMan$Room;III)Z"⟩ ⟨"FewerMan$Purpose", "losesFirst", "(LFewerMan$Room;III)Z"⟩ : Jvm.Cond) ∈ m_tbl := m_tbl_of (List.mem_of_getElem? (i := 696) (by decide +kernel)) rfl
theorem wd_702 : (Cond.methodLink "FewerMan" 196 ⟨"FewerMan", "isNoSet", "(II)Z"⟩ : Jvm.Cond) ∈ m_tbl := m_tbl_of (List.mem_of_getElem? (i := 702) (by decide +kernel)) rfl
theorem wd_704 : (Cond.instanceMethod ⟨"FewerMan", "isNoSet", "(II)Z"⟩ : Jvm.Cond) ∈ m_tbl := m_tbl_of (List.mem_of_getElem? (i := 704) (by decide +kernel)) rfl
theorem wd_13 : (Cond.selects "FewerMan" ⟨"FewerMan", "isNoSet", "(II)Z"⟩ ⟨"FewerMan", "isNoSet", "(II)Z"⟩ : Jvm.Cond) ∈ m_tbl := m_tbl_of (List.mem_of_getElem? (i := 13) (by decide +kernel)) rfl
theorem wd_712 : (Cond.methodLink "FewerMan" 200 ⟨"FewerMan$Orders", "looksFor", "(LFewerMan$Room;II)V"⟩ : Jvm.Cond) ∈ m_tbl := m_tbl_of (List.mem_of_getElem? (i := 712) (by decide +kernel)) rfl
theorem wd_713 : (Cond.instanceMethod ⟨"FewerMan$Orders", "looksFor", "(LFewerMan$Room;II)V"⟩ : Jvm.Cond) ∈ m_tbl := m_tbl_of (List.mem_of_getElem? (i := 713) (by decide +kernel)) rfl
theorem wd_714 : (Cond.selects "FewerMan$Orders" ⟨"FewerMan$Orders", "looksFor", "(LFewerMan$Room;II)V"⟩ ⟨"FewerMan$Orders", "looksFor", "(LFewerMan$Room;II)V"⟩ : Jvm.Cond) ∈ m_tbl := m_tbl_of (List.mem_of_getElem? (i := 714) (by decide +kernel)) rfl
theorem wd_283 : (Cond.fieldLink "FewerMan" 204 "FewerMan$Orders" "size" "I" : Jvm.Cond) ∈ m_tbl := m_tbl_of (List.mem_of_getElem? (i := 283) (by decide +kernel)) rfl
theorem wd_281 : (Cond.fieldLink "FewerMan" 207 "FewerMan$Orders" "best" "[I" : Jvm.Cond) ∈ m_tbl := m_tbl_of (List.mem_of_getElem? (i := 281) (by decide +kernel)) rfl
theorem wd_285 : (Cond.fieldLink "FewerMan" 210 "FewerMan$Orders" "mean" "J" : Jvm.Cond) ∈ m_tbl := m_tbl_of (List.mem_of_getElem? (i := 285) (by decide +kernel)) rfl
theorem wd_739 : (Cond.methodLink "FewerMan" 214 ⟨"FewerMan$Duel", "stakeOfOne", "()J"⟩ : Jvm.Cond) ∈ m_tbl := m_tbl_of (List.mem_of_getElem? (i := 739) (by decide +kernel)) rfl
theorem wd_740 : (Cond.instanceMethod ⟨"FewerMan$Duel", "stakeOfOne", "()J"⟩ : Jvm.Cond) ∈ m_tbl := m_tbl_of (List.mem_of_getElem? (i := 740) (by decide +kernel)) rfl
theorem wd_741 : (Cond.selects "FewerMan$Duel" ⟨"FewerMan$Duel", "stakeOfOne", "()J"⟩ ⟨"FewerMan$Duel", "stakeOfOne", "()J"⟩ : Jvm.Cond) ∈ m_tbl := m_tbl_of (List.mem_of_getElem? (i := 741) (by decide +kernel)) rfl
theorem wd_747 : (Cond.methodLink "FewerMan" 217 ⟨"FewerMan$Room", "becomes", "(LFewerMan$Room;)V"⟩ : Jvm.Cond) ∈ m_tbl := m_tbl_of (List.mem_of_getElem? (i := 747) (by decide +kernel)) rfl
theorem wd_748 : (Cond.instanceMethod ⟨"FewerMan$Room", "becomes", "(LFewerMan$Room;)V"⟩ : Jvm.Cond) ∈ m_tbl := m_tbl_of (List.mem_of_getElem? (i := 748) (by decide +kernel)) rfl
theorem wd_749 : (Cond.selects "FewerMan$Room" ⟨"FewerMan$Room", "becomes", "(LFewerMan$Room;)V"⟩ ⟨"FewerMan$Room", "becomes", "(LFewerMan$Room;)V"⟩ : Jvm.Cond) ∈ m_tbl := m_tbl_of (List.mem_of_getElem? (i := 749) (by decide +kernel)) rfl
theorem wd_752 : (Cond.methodLink "FewerMan" 221 ⟨"FewerMan$Seats", "wonBy", "(LFewerMan$Room;II)J"⟩ : Jvm.Cond) ∈ m_tbl := m_tbl_of (List.mem_of_getElem? (i := 752) (by decide +kernel)) rfl
theorem wd_753 : (Cond.instanceMethod ⟨"FewerMan$Seats", "wonBy", "(LFewerMan$Room;II)J"⟩ : Jvm.Cond) ∈ m_tbl := m_tbl_of (List.mem_of_getElem? (i := 753) (by decide +kernel)) rfl
theorem wd_754 : (Cond.selects "FewerMan$Seats" ⟨"FewerMan$Seats", "wonBy", "(LFewerMan$Room;II)J"⟩ ⟨"FewerMan$Seats", "wonBy", "(LFewerMan$Room;II)J"⟩ : Jvm.Cond) ∈ m_tbl := m_tbl_of (List.mem_of_getElem? (i := 754) (by decide +kernel)) rfl
theorem wd_129 : (Cond.fieldLink "FewerMan" 225 "FewerMan$Room" "books" "I" : Jvm.Cond) ∈ m_tbl := m_tbl_of (List.mem_of_getElem? (i := 129) (by decide +kernel)) rfl
theorem wd_125 : (Cond.fieldLink "FewerMan" 228 "FewerMan$Room" "bookWinner" "[I" : Jvm.Cond) ∈ m_tbl := m_tbl_of (List.mem_of_getElem? (i := 125) (by decide +kernel)) rfl
theorem wd_127 : (Cond.fieldLink "FewerMan" 231 "FewerMan$Room" "bookLoser" "[I" : Jvm.Cond) ∈ m_tbl := m_tbl_of (List.mem_of_getElem? (i := 127) (by decide +kernel)) rfl
theorem wd_777 : (Cond.methodLink "FewerMan" 234 ⟨"FewerMan$Room", "chanceOfBook", "(I)I"⟩ : Jvm.Cond) ∈ m_tbl := m_tbl_of (List.mem_of_getElem? (i := 777) (by decide +kernel)) rfl
theorem wd_778 : (Cond.instanceMethod ⟨"FewerMan$Room", "chanceOfBook", "(I)I"⟩ : Jvm.Cond) ∈ m_tbl := m_tbl_of (List.mem_of_getElem? (i := 778) (by decide +kernel)) rfl
theorem wd_779 : (Cond.selects "FewerMan$Room" ⟨"FewerMan$Room", "chanceOfBook", "(I)I"⟩ ⟨"FewerMan$Room", "chanceOfBook", "(I)I"⟩ : Jvm.Cond) ∈ m_tbl := m_tbl_of (List.mem_of_getElem? (i := 779) (by decide +kernel)) rfl
theorem wd_782 : (Cond.methodLink "FewerMan" 237 ⟨"FewerMan$Room", "gameOfBook", "(I)V"⟩ : Jvm.Cond) ∈ m_tbl := m_tbl_of (List.mem_of_getElem? (i := 782) (by decide +kernel)) rfl
theorem wd_783 : (Cond.instanceMethod ⟨"FewerMan$Room", "gameOfBook", "(I)V"⟩ : Jvm.Cond) ∈ m_tbl := m_tbl_of (List.mem_of_getElem? (i := 783) (by decide +kernel)) rfl
theorem wd_784 : (Cond.selects "FewerMan$Room" ⟨"FewerMan$Room", "gameOfBook", "(I)V"⟩ ⟨"FewerMan$Room", "gameOfBook", "(I)V"⟩ : Jvm.Cond) ∈ m_tbl := m_tbl_of (List.mem_of_getElem? (i := 784) (by decide +kernel)) rfl
theorem wd_133 : (Cond.fieldLink "FewerMan" 241 "FewerMan$Room" "tales" "I" : Jvm.Cond) ∈ m_tbl := m_tbl_of (List.mem_of_getElem? (i := 133) (by decide +kernel)) rfl
theorem wd_131 : (Cond.fieldLink "FewerMan" 244 "FewerMan$Room" "tale" "[I" : Jvm.Cond) ∈ m_tbl := m_tbl_of (List.mem_of_getElem? (i := 131) (by decide +kernel)) rfl
theorem wd_803 : (Cond.methodLink "FewerMan" 247 ⟨"FewerMan$Acts", "forget", "()V"⟩ : Jvm.Cond) ∈ m_tbl := m_tbl_of (List.mem_of_getElem? (i := 803) (by decide +kernel)) rfl
theorem wd_804 : (Cond.instanceMethod ⟨"FewerMan$Acts", "forget", "()V"⟩ : Jvm.Cond) ∈ m_tbl := m_tbl_of (List.mem_of_getElem? (i := 804) (by decide +kernel)) rfl
theorem wd_805 : (Cond.selects "FewerMan$Acts" ⟨"FewerMan$Acts", "forget", "()V"⟩ ⟨"FewerMan$Acts", "forget", "()V"⟩ : Jvm.Cond) ∈ m_tbl := m_tbl_of (List.mem_of_getElem? (i := 805) (by decide +kernel)) rfl
theorem wd_807 : (Cond.methodLink "FewerMan" 250 ⟨"FewerMan$Acts", "does", "(IIIII)I"⟩ : Jvm.Cond) ∈ m_tbl := m_tbl_of (List.mem_of_getElem? (i := 807) (by decide +kernel)) rfl
theorem wd_808 : (Cond.instanceMethod ⟨"FewerMan$Acts", "does", "(IIIII)I"⟩ : Jvm.Cond) ∈ m_tbl := m_tbl_of (List.mem_of_getElem? (i := 808) (by decide +kernel)) rfl
theorem wd_809 : (Cond.selects "FewerMan$Acts" ⟨"FewerMan$Acts", "does", "(IIIII)I"⟩ ⟨"FewerMan$Acts", "does", "(IIIII)I"⟩ : Jvm.Cond) ∈ m_tbl := m_tbl_of (List.mem_of_getElem? (i := 809) (by decide +kernel)) rfl
theorem wd_836 : (Cond.methodLink "FewerMan" 253 ⟨"FewerMan$Acts", "kept", "()I"⟩ : Jvm.Cond) ∈ m_tbl := m_tbl_of (List.mem_of_getElem? (i := 836) (by decide +kernel)) rfl
theorem wd_837 : (Cond.instanceMethod ⟨"FewerMan$Acts", "kept", "()I"⟩ : Jvm.Cond) ∈ m_tbl := m_tbl_of (List.mem_of_getElem? (i := 837) (by decide +kernel)) rfl
theorem wd_838 : (Cond.selects "FewerMan$Acts" ⟨"FewerMan$Acts", "kept", "()I"⟩ ⟨"FewerMan$Acts", "kept", "()I"⟩ : Jvm.Cond) ∈ m_tbl := m_tbl_of (List.mem_of_getElem? (i := 838) (by decide +kernel)) rfl
theorem wd_331 : (Cond.fieldLink "FewerMan" 256 "FewerMan$Acts" "trace" "[I" : Jvm.Cond) ∈ m_tbl := m_tbl_of (List.mem_of_getElem? (i := 331) (by decide +kernel)) rfl
theorem wd_845 : (Cond.methodLink "FewerMan" 259 ⟨"FewerMan", "isKind", "(II)Z"⟩ : Jvm.Cond) ∈ m_tbl := m_tbl_of (List.mem_of_getElem? (i := 845) (by decide +kernel)) rfl
theorem wd_846 : (Cond.static ⟨"FewerMan", "isKind", "(II)Z"⟩ : Jvm.Cond) ∈ m_tbl := m_tbl_of (List.mem_of_getElem? (i := 846) (by decide +kernel)) rfl
theorem wd_357 : (Cond.fieldLink "FewerMan" 262 "FewerMan" "imageTaken" "Z" : Jvm.Cond) ∈ m_tbl := m_tbl_of (List.mem_of_getElem? (i := 357) (by decide +kernel)) rfl
theorem wd_333 : (Cond.fieldLink "FewerMan" 266 "FewerMan$Acts" "ran" "I" : Jvm.Cond) ∈ m_tbl := m_tbl_of (List.mem_of_getElem? (i := 333) (by decide +kernel)) rfl
theorem wd_706 : (Cond.methodLink "FewerMan" 269 ⟨"java/lang/Integer", "bitCount", "(I)I"⟩ : Jvm.Cond) ∈ m_tbl := m_tbl_of (List.mem_of_getElem? (i := 706) (by decide +kernel)) rfl
theorem wd_848 : (Cond.fieldLink "FewerMan" 274 "FewerMan" "ABOVE" "[I" : Jvm.Cond) ∈ m_tbl := m_tbl_of (List.mem_of_getElem? (i := 848) (by decide +kernel)) rfl
theorem wm_631 : (Cond.methodLink "FewerMan" 277 Lib.MathLoose.abs_long.x : Jvm.Cond) ∈ m_tbl := m_tbl_of (List.mem_of_getElem? (i := 631) (by decide +kernel)) rfl
theorem wm_632 : (Cond.static Lib.MathLoose.abs_long.x : Jvm.Cond) ∈ m_tbl := m_tbl_of (List.mem_of_getElem? (i := 632) (by decide +kernel)) rfl
theorem wm_633 : (Cond.code Lib.MathLoose.abs_long.x Lib.MathLoose.abs_long.code 2 (some .long) : Jvm.Cond) ∈ m_tbl := m_tbl_of (List.mem_of_getElem? (i := 633) (by decide +kernel)) rfl
theorem wd_866 : (Cond.methodLink "FewerManModel" 3 ⟨"java/lang/Object", "<init>", "()V"⟩ : Jvm.Cond) ∈ m_tbl := m_tbl_of (List.mem_of_getElem? (i := 866) (by decide +kernel)) rfl
theorem wd_867 : (Cond.fieldLink "FewerManModel" 9 "FewerManModel" "s" "[I" : Jvm.Cond) ∈ m_tbl := m_tbl_of (List.mem_of_getElem? (i := 867) (by decide +kernel)) rfl
theorem wd_868 : (Cond.fieldLink "FewerManModel" 15 "FewerManModel" "image" "[I" : Jvm.Cond) ∈ m_tbl := m_tbl_of (List.mem_of_getElem? (i := 868) (by decide +kernel)) rfl
theorem wd_869 : (Cond.fieldLink "FewerManModel" 18 "FewerManModel" "frame" "[I" : Jvm.Cond) ∈ m_tbl := m_tbl_of (List.mem_of_getElem? (i := 869) (by decide +kernel)) rfl
theorem wd_876 : (Cond.fieldLink "FewerManModel" 21 "FewerManModel" "by" "[I" : Jvm.Cond) ∈ m_tbl := m_tbl_of (List.mem_of_getElem? (i := 876) (by decide +kernel)) rfl
theorem wd_877 : (Cond.fieldLink "FewerManModel" 24 "FewerManModel" "truths" "[Z" : Jvm.Cond) ∈ m_tbl := m_tbl_of (List.mem_of_getElem? (i := 877) (by decide +kernel)) rfl
theorem wd_878 : (Cond.fieldLink "FewerManModel" 28 "FewerManModel" "often" "[J" : Jvm.Cond) ∈ m_tbl := m_tbl_of (List.mem_of_getElem? (i := 878) (by decide +kernel)) rfl
theorem wd_879 : (Cond.fieldLink "FewerManModel" 32 "FewerManModel" "then" "[J" : Jvm.Cond) ∈ m_tbl := m_tbl_of (List.mem_of_getElem? (i := 879) (by decide +kernel)) rfl
theorem wd_882 : (Cond.fieldLink "FewerManModel" 35 "FewerManModel" "order" "[I" : Jvm.Cond) ∈ m_tbl := m_tbl_of (List.mem_of_getElem? (i := 882) (by decide +kernel)) rfl
theorem wd_883 : (Cond.fieldLink "FewerManModel" 38 "FewerManModel" "bestOrder" "[I" : Jvm.Cond) ∈ m_tbl := m_tbl_of (List.mem_of_getElem? (i := 883) (by decide +kernel)) rfl
theorem wd_885 : (Cond.fieldLink "FewerManModel" 41 "FewerManModel" "bodies" "[I" : Jvm.Cond) ∈ m_tbl := m_tbl_of (List.mem_of_getElem? (i := 885) (by decide +kernel)) rfl
theorem wd_943 : (Cond.methodLink "FewerManModel" 48 ⟨"FewerManModel", "in", "(III)Z"⟩ : Jvm.Cond) ∈ m_tbl := m_tbl_of (List.mem_of_getElem? (i := 943) (by decide +kernel)) rfl
theorem wd_944 : (Cond.static ⟨"FewerManModel", "in", "(III)Z"⟩ : Jvm.Cond) ∈ m_tbl := m_tbl_of (List.mem_of_getElem? (i := 944) (by decide +kernel)) rfl
theorem wd_71 : (Cond.initialized "FewerManModel" : Jvm.Cond) ∈ m_tbl := m_tbl_of (List.mem_of_getElem? (i := 71) (by decide +kernel)) rfl
theorem wd_1065 : (Cond.methodLink "FewerManModel" 52 ⟨"FewerManModel", "isPlayer", "(I)Z"⟩ : Jvm.Cond) ∈ m_tbl := m_tbl_of (List.mem_of_getElem? (i := 1065) (by decide +kernel)) rfl
theorem wd_1067 : (Cond.instanceMethod ⟨"FewerManModel", "isPlayer", "(I)Z"⟩ : Jvm.Cond) ∈ m_tbl := m_tbl_of (List.mem_of_getElem? (i := 1067) (by decide +kernel)) rfl
theorem wd_31 : (Cond.selects "FewerManModel" ⟨"FewerManModel", "isPlayer", "(I)Z"⟩ ⟨"FewerManModel", "isPlayer", "(I)Z"⟩ : Jvm.Cond) ∈ m_tbl := m_tbl_of (List.mem_of_getElem? (i := 31) (by decide +kernel)) rfl
theorem wd_872 : (Cond.fieldLink "FewerManModel" 56 "FewerManModel" "spot" "I" : Jvm.Cond) ∈ m_tbl := m_tbl_of (List.mem_of_getElem? (i := 872) (by decide +kernel)) rfl
theorem wd_873 : (Cond.fieldLink "FewerManModel" 59 "FewerManModel" "end" "I" : Jvm.Cond) ∈ m_tbl := m_tbl_of (List.mem_of_getElem? (i := 873) (by decide +kernel)) rfl
theorem wd_874 : (Cond.fieldLink "FewerManModel" 62 "FewerManModel" "isWrong" "Z" : Jvm.Cond) ∈ m_tbl := m_tbl_of (List.mem_of_getElem? (i := 874) (by decide +kernel)) rfl
theorem wd_954 : (Cond.methodLink "FewerManModel" 66 ⟨"FewerManModel", "here", "()I"⟩ : Jvm.Cond) ∈ m_tbl := m_tbl_of (List.mem_of_getElem? (i := 954) (by decide +kernel)) rfl
theorem wd_956 : (Cond.instanceMethod ⟨"FewerManModel", "here", "()I"⟩ : Jvm.Cond) ∈ m_tbl := m_tbl_of (List.mem_of_getElem? (i := 956) (by decide +kernel)) rfl
theorem wd_19 : (Cond.selects "FewerManModel" ⟨"FewerManModel", "here", "()I"⟩ ⟨"FewerManModel", "here", "()I"⟩ : Jvm.Cond) ∈ m_tbl := m_tbl_of (List.mem_of_getElem? (i := 19) (by decide +kernel)) rfl
theorem wd_975 : (Cond.methodLink "FewerManModel" 70 ⟨"java/lang/String", "length", "()I"⟩ : Jvm.Cond) ∈ m_tbl := m_tbl_of (List.mem_of_getElem? (i := 975) (by decide +kernel)) rfl
theorem wd_976 : (Cond.instanceMethod ⟨"java/lang/String", "length", "()I"⟩ : Jvm.Cond) ∈ m_tbl := m_tbl_of (List.mem_of_getElem? (i := 976) (by decide +kernel)) rfl
theorem wd_977 : (Cond.selects "java/lang/String" ⟨"java/lang/String", "length", "()I"⟩ ⟨"java/lang/String", "length", "()I"⟩ : Jvm.Cond) ∈ m_tbl := m_tbl_of (List.mem_of_getElem? (i := 977) (by decide +kernel)) rfl
theorem wd_75 : (Cond.initialized "java/lang/String" : Jvm.Cond) ∈ m_tbl := m_tbl_of (List.mem_of_getElem? (i := 75) (by decide +kernel)) rfl
theorem wd_985 : (Cond.methodLink "FewerManModel" 75 ⟨"java/lang/String", "charAt", "(I)C"⟩ : Jvm.Cond) ∈ m_tbl := m_tbl_of (List.mem_of_getElem? (i := 985) (by decide +kernel)) rfl
theorem wd_986 : (Cond.instanceMethod ⟨"java/lang/String", "charAt", "(I)C"⟩ : Jvm.Cond) ∈ m_tbl := m_tbl_of (List.mem_of_getElem? (i := 986) (by decide +kernel)) rfl
theorem wd_987 : (Cond.selects "java/lang/String" ⟨"java/lang/String", "charAt", "(I)C"⟩ ⟨"java/lang/String", "charAt", "(I)C"⟩ : Jvm.Cond) ∈ m_tbl := m_tbl_of (List.mem_of_getElem? (i := 987) (by decide +kernel)) rfl
theorem wd_962 : (Cond.methodLink "FewerManModel" 79 ⟨"FewerManModel", "must", "(I)V"⟩ : Jvm.Cond) ∈ m_tbl := m_tbl_of (List.mem_of_getElem? (i := 962) (by decide +kernel)) rfl
theorem wd_964 : (Cond.instanceMethod ⟨"FewerManModel", "must", "(I)V"⟩ : Jvm.Cond) ∈ m_tbl := m_tbl_of (List.mem_of_getElem? (i := 964) (by decide +kernel)) rfl
theorem wd_21 : (Cond.selects "FewerManModel" ⟨"FewerManModel", "must", "(I)V"⟩ ⟨"FewerManModel", "must", "(I)V"⟩ : Jvm.Cond) ∈ m_tbl := m_tbl_of (List.mem_of_getElem? (i := 21) (by decide +kernel)) rfl
theorem wd_871 : (Cond.fieldLink "FewerManModel" 83 "FewerManModel" "act" "I" : Jvm.Cond) ∈ m_tbl := m_tbl_of (List.mem_of_getElem? (i := 871) (by decide +kernel)) rfl
theorem wd_875 : (Cond.fieldLink "FewerManModel" 86 "FewerManModel" "open" "I" : Jvm.Cond) ∈ m_tbl := m_tbl_of (List.mem_of_getElem? (i := 875) (by decide +kernel)) rfl
theorem wd_1035 : (Cond.methodLink "FewerManModel" 89 ⟨"FewerManModel", "factor", "()V"⟩ : Jvm.Cond) ∈ m_tbl := m_tbl_of (List.mem_of_getElem? (i := 1035) (by decide +kernel)) rfl
theorem wd_1037 : (Cond.instanceMethod ⟨"FewerManModel", "factor", "()V"⟩ : Jvm.Cond) ∈ m_tbl := m_tbl_of (List.mem_of_getElem? (i := 1037) (by decide +kernel)) rfl
theorem wd_27 : (Cond.selects "FewerManModel" ⟨"FewerManModel", "factor", "()V"⟩ ⟨"FewerManModel", "factor", "()V"⟩ : Jvm.Cond) ∈ m_tbl := m_tbl_of (List.mem_of_getElem? (i := 27) (by decide +kernel)) rfl
theorem wd_1039 : (Cond.methodLink "FewerManModel" 92 ⟨"FewerManModel", "emits", "(I)V"⟩ : Jvm.Cond) ∈ m_tbl := m_tbl_of (List.mem_of_getElem? (i := 1039) (by decide +kernel)) rfl
theorem wd_1041 : (Cond.instanceMethod ⟨"FewerManModel", "emits", "(I)V"⟩ : Jvm.Cond) ∈ m_tbl := m_tbl_of (List.mem_of_getElem? (i := 1041) (by decide +kernel)) rfl
theorem wd_28 : (Cond.selects "FewerManModel" ⟨"FewerManModel", "emits", "(I)V"⟩ ⟨"FewerManModel", "emits", "(I)V"⟩ : Jvm.Cond) ∈ m_tbl := m_tbl_of (List.mem_of_getElem? (i := 28) (by decide +kernel)) rfl
theorem wd_1027 : (Cond.methodLink "FewerManModel" 95 ⟨"FewerManModel", "some", "()V"⟩ : Jvm.Cond) ∈ m_tbl := m_tbl_of (List.mem_of_getElem? (i := 1027) (by decide +kernel)) rfl
theorem wd_1029 : (Cond.instanceMethod ⟨"FewerManModel", "some", "()V"⟩ : Jvm.Cond) ∈ m_tbl := m_tbl_of (List.mem_of_getElem? (i := 1029) (by decide +kernel)) rfl
theorem wd_25 : (Cond.selects "FewerManModel" ⟨"FewerManModel", "some", "()V"⟩ ⟨"FewerManModel", "some", "()V"⟩ : Jvm.Cond) ∈ m_tbl := m_tbl_of (List.mem_of_getElem? (i := 25) (by decide +kernel)) rfl
theorem wd_1044 : (Cond.methodLink "FewerManModel" 100 ⟨"FewerManModel", "among", "(Ljava/lang/String;)I"⟩ : Jvm.Cond) ∈ m_tbl := m_tbl_of (List.mem_of_getElem? (i := 1044) (by decide +kernel)) rfl
theorem wd_1046 : (Cond.instanceMethod ⟨"FewerManModel", "among", "(Ljava/lang/String;)I"⟩ : Jvm.Cond) ∈ m_tbl := m_tbl_of (List.mem_of_getElem? (i := 1046) (by decide +kernel)) rfl
theorem wd_29 : (Cond.selects "FewerManModel" ⟨"FewerManModel", "among", "(Ljava/lang/String;)I"⟩ ⟨"FewerManModel", "among", "(Ljava/lang/String;)I"⟩ : Jvm.Cond) ∈ m_tbl := m_tbl_of (List.mem_of_getElem? (i := 29) (by decide +kernel)) rfl
theorem wd_1023 : (Cond.methodLink "FewerManModel" 106 ⟨"FewerManModel", "figures", "()I"⟩ : Jvm.Cond) ∈ m_tbl := m_tbl_of (List.mem_of_getElem? (i := 1023) (by decide +kernel)) rfl
theorem wd_1025 : (Cond.instanceMethod ⟨"FewerManModel", "figures", "()I"⟩ : Jvm.Cond) ∈ m_tbl := m_tbl_of (List.mem_of_getElem? (i := 1025) (by decide +kernel)) rfl
theorem wd_24 : (Cond.selects "FewerManModel" ⟨"FewerManModel", "figures", "()I"⟩ ⟨"FewerManModel", "figures", "()I"⟩ : Jvm.Cond) ∈ m_tbl := m_tbl_of (List.mem_of_getElem? (i := 24) (by decide +kernel)) rfl
theorem wd_1031 : (Cond.methodLink "FewerManModel" 109 ⟨"FewerManModel", "every", "()V"⟩ : Jvm.Cond) ∈ m_tbl := m_tbl_of (List.mem_of_getElem? (i := 1031) (by decide +kernel)) rfl
theorem wd_1033 : (Cond.instanceMethod ⟨"FewerManModel", "every", "()V"⟩ : Jvm.Cond) ∈ m_tbl := m_tbl_of (List.mem_of_getElem? (i := 1033) (by decide +kernel)) rfl
theorem wd_26 : (Cond.selects "FewerManModel" ⟨"FewerManModel", "every", "()V"⟩ ⟨"FewerManModel", "every", "()V"⟩ : Jvm.Cond) ∈ m_tbl := m_tbl_of (List.mem_of_getElem? (i := 26) (by decide +kernel)) rfl
theorem wd_971 : (Cond.methodLink "FewerManModel" 112 ⟨"FewerManModel", "spells", "(Ljava/lang/String;)V"⟩ : Jvm.Cond) ∈ m_tbl := m_tbl_of (List.mem_of_getElem? (i := 971) (by decide +kernel)) rfl
theorem wd_973 : (Cond.instanceMethod ⟨"FewerManModel", "spells", "(Ljava/lang/String;)V"⟩ : Jvm.Cond) ∈ m_tbl := m_tbl_of (List.mem_of_getElem? (i := 973) (by decide +kernel)) rfl
theorem wd_23 : (Cond.selects "FewerManModel" ⟨"FewerManModel", "spells", "(Ljava/lang/String;)V"⟩ ⟨"FewerManModel", "spells", "(Ljava/lang/String;)V"⟩ : Jvm.Cond) ∈ m_tbl := m_tbl_of (List.mem_of_getElem? (i := 23) (by decide +kernel)) rfl
theorem wd_967 : (Cond.methodLink "FewerManModel" 118 ⟨"FewerManModel", "much", "(ILjava/lang/String;)V"⟩ : Jvm.Cond) ∈ m_tbl := m_tbl_of (List.mem_of_getElem? (i := 967) (by decide +kernel)) rfl
theorem wd_969 : (Cond.instanceMethod ⟨"FewerManModel", "much", "(ILjava/lang/String;)V"⟩ : Jvm.Cond) ∈ m_tbl := m_tbl_of (List.mem_of_getElem? (i := 969) (by decide +kernel)) rfl
theorem wd_22 : (Cond.selects "FewerManModel" ⟨"FewerManModel", "much", "(ILjava/lang/String;)V"⟩ ⟨"FewerManModel", "much", "(ILjava/lang/String;)V"⟩ : Jvm.Cond) ∈ m_tbl := m_tbl_of (List.mem_of_getElem? (i := 22) (by decide +kernel)) rfl
theorem wd_1050 : (Cond.methodLink "FewerManModel" 124 ⟨"FewerManModel", "tellsHere", "(ILjava/lang/String;)V"⟩ : Jvm.Cond) ∈ m_tbl := m_tbl_of (List.mem_of_getElem? (i := 1050) (by decide +kernel)) rfl
theorem wd_1052 : (Cond.instanceMethod ⟨"FewerManModel", "tellsHere", "(ILjava/lang/String;)V"⟩ : Jvm.Cond) ∈ m_tbl := m_tbl_of (List.mem_of_getElem? (i := 1052) (by decide +kernel)) rfl
theorem wd_30 : (Cond.selects "FewerManModel" ⟨"FewerManModel", "tellsHere", "(ILjava/lang/String;)V"⟩ ⟨"FewerManModel", "tellsHere", "(ILjava/lang/String;)V"⟩ : Jvm.Cond) ∈ m_tbl := m_tbl_of (List.mem_of_getElem? (i := 30) (by decide +kernel)) rfl
theorem wd_958 : (Cond.methodLink "FewerManModel" 127 ⟨"FewerManModel", "clauseOfL", "()V"⟩ : Jvm.Cond) ∈ m_tbl := m_tbl_of (List.mem_of_getElem? (i := 958) (by decide +kernel)) rfl
theorem wd_960 : (Cond.instanceMethod ⟨"FewerManModel", "clauseOfL", "()V"⟩ : Jvm.Cond) ∈ m_tbl := m_tbl_of (List.mem_of_getElem? (i := 960) (by decide +kernel)) rfl
theorem wd_20 : (Cond.selects "FewerManModel" ⟨"FewerManModel", "clauseOfL", "()V"⟩ ⟨"FewerManModel", "clauseOfL", "()V"⟩ : Jvm.Cond) ∈ m_tbl := m_tbl_of (List.mem_of_getElem? (i := 20) (by decide +kernel)) rfl
theorem wd_950 : (Cond.methodLink "FewerManModel" 134 ⟨"FewerManModel", "clauseHere", "()V"⟩ : Jvm.Cond) ∈ m_tbl := m_tbl_of (List.mem_of_getElem? (i := 950) (by decide +kernel)) rfl
theorem wd_952 : (Cond.instanceMethod ⟨"FewerManModel", "clauseHere", "()V"⟩ : Jvm.Cond) ∈ m_tbl := m_tbl_of (List.mem_of_getElem? (i := 952) (by decide +kernel)) rfl
theorem wd_18 : (Cond.selects "FewerManModel" ⟨"FewerManModel", "clauseHere", "()V"⟩ ⟨"FewerManModel", "clauseHere", "()V"⟩ : Jvm.Cond) ∈ m_tbl := m_tbl_of (List.mem_of_getElem? (i := 18) (by decide +kernel)) rfl
theorem wd_1081 : (Cond.methodLink "FewerManModel" 137 ⟨"FewerManModel", "tellsOf", "(I)I"⟩ : Jvm.Cond) ∈ m_tbl := m_tbl_of (List.mem_of_getElem? (i := 1081) (by decide +kernel)) rfl
theorem wd_1083 : (Cond.instanceMethod ⟨"FewerManModel", "tellsOf", "(I)I"⟩ : Jvm.Cond) ∈ m_tbl := m_tbl_of (List.mem_of_getElem? (i := 1083) (by decide +kernel)) rfl
theorem wd_32 : (Cond.selects "FewerManModel" ⟨"FewerManModel", "tellsOf", "(I)I"⟩ ⟨"FewerManModel", "tellsOf", "(I)I"⟩ : Jvm.Cond) ∈ m_tbl := m_tbl_of (List.mem_of_getElem? (i := 32) (by decide +kernel)) rfl
theorem wd_1093 : (Cond.methodLink "FewerManModel" 141 ⟨"FewerManModel", "lifted", "(II)I"⟩ : Jvm.Cond) ∈ m_tbl := m_tbl_of (List.mem_of_getElem? (i := 1093) (by decide +kernel)) rfl
theorem wd_1095 : (Cond.instanceMethod ⟨"FewerManModel", "lifted", "(II)I"⟩ : Jvm.Cond) ∈ m_tbl := m_tbl_of (List.mem_of_getElem? (i := 1095) (by decide +kernel)) rfl
theorem wd_34 : (Cond.selects "FewerManModel" ⟨"FewerManModel", "lifted", "(II)I"⟩ ⟨"FewerManModel", "lifted", "(II)I"⟩ : Jvm.Cond) ∈ m_tbl := m_tbl_of (List.mem_of_getElem? (i := 34) (by decide +kernel)) rfl
theorem wd_1089 : (Cond.methodLink "FewerManModel" 145 ⟨"FewerManModel", "pushOf", "(II)I"⟩ : Jvm.Cond) ∈ m_tbl := m_tbl_of (List.mem_of_getElem? (i := 1089) (by decide +kernel)) rfl
theorem wd_1091 : (Cond.instanceMethod ⟨"FewerManModel", "pushOf", "(II)I"⟩ : Jvm.Cond) ∈ m_tbl := m_tbl_of (List.mem_of_getElem? (i := 1091) (by decide +kernel)) rfl
theorem wd_33 : (Cond.selects "FewerManModel" ⟨"FewerManModel", "pushOf", "(II)I"⟩ ⟨"FewerManModel", "pushOf", "(II)I"⟩ : Jvm.Cond) ∈ m_tbl := m_tbl_of (List.mem_of_getElem? (i := 33) (by decide +kernel)) rfl
theorem wd_1101 : (Cond.methodLink "FewerManModel" 148 ⟨"FewerManModel", "oddsOf", "(II)I"⟩ : Jvm.Cond) ∈ m_tbl := m_tbl_of (List.mem_of_getElem? (i := 1101) (by decide +kernel)) rfl
theorem wd_1103 : (Cond.instanceMethod ⟨"FewerManModel", "oddsOf", "(II)I"⟩ : Jvm.Cond) ∈ m_tbl := m_tbl_of (List.mem_of_getElem? (i := 1103) (by decide +kernel)) rfl
theorem wd_35 : (Cond.selects "FewerManModel" ⟨"FewerManModel", "oddsOf", "(II)I"⟩ ⟨"FewerManModel", "oddsOf", "(II)I"⟩ : Jvm.Cond) ∈ m_tbl := m_tbl_of (List.mem_of_getElem? (i := 35) (by decide +kernel)) rfl
theorem wd_1113 : (Cond.methodLink "FewerManModel" 151 ⟨"FewerManModel", "fewer", "(I)I"⟩ : Jvm.Cond) ∈ m_tbl := m_tbl_of (List.mem_of_getElem? (i := 1113) (by decide +kernel)) rfl
theorem wd_1115 : (Cond.instanceMethod ⟨"FewerManModel", "fewer", "(I)I"⟩ : Jvm.Cond) ∈ m_tbl := m_tbl_of (List.mem_of_getElem? (i := 1115) (by decide +kernel)) rfl
theorem wd_37 : (Cond.selects "FewerManModel" ⟨"FewerManModel", "fewer", "(I)I"⟩ ⟨"FewerManModel", "fewer", "(I)I"⟩ : Jvm.Cond) ∈ m_tbl := m_tbl_of (List.mem_of_getElem? (i := 37) (by decide +kernel)) rfl
theorem wd_1117 : (Cond.methodLink "FewerManModel" 154 ⟨"FewerManModel", "moreOf", "(I)I"⟩ : Jvm.Cond) ∈ m_tbl := m_tbl_of (List.mem_of_getElem? (i := 1117) (by decide +kernel)) rfl
theorem wd_1119 : (Cond.instanceMethod ⟨"FewerManModel", "moreOf", "(I)I"⟩ : Jvm.Cond) ∈ m_tbl := m_tbl_of (List.mem_of_getElem? (i := 1119) (by decide +kernel)) rfl
theorem wd_38 : (Cond.selects "FewerManModel" ⟨"FewerManModel", "moreOf", "(I)I"⟩ ⟨"FewerManModel", "moreOf", "(I)I"⟩ : Jvm.Cond) ∈ m_tbl := m_tbl_of (List.mem_of_getElem? (i := 38) (by decide +kernel)) rfl
theorem wd_1109 : (Cond.methodLink "FewerManModel" 157 ⟨"FewerManModel", "plays", "(II)V"⟩ : Jvm.Cond) ∈ m_tbl := m_tbl_of (List.mem_of_getElem? (i := 1109) (by decide +kernel)) rfl
theorem wd_1111 : (Cond.instanceMethod ⟨"FewerManModel", "plays", "(II)V"⟩ : Jvm.Cond) ∈ m_tbl := m_tbl_of (List.mem_of_getElem? (i := 1111) (by decide +kernel)) rfl
theorem wd_36 : (Cond.selects "FewerManModel" ⟨"FewerManModel", "plays", "(II)V"⟩ ⟨"FewerManModel", "plays", "(II)V"⟩ : Jvm.Cond) ∈ m_tbl := m_tbl_of (List.mem_of_getElem? (i := 36) (by decide +kernel)) rfl
theorem wd_1146 : (Cond.constantLong "FewerManModel" 161 (10) : Jvm.Cond) ∈ m_tbl := m_tbl_of (List.mem_of_getElem? (i := 1146) (by decide +kernel)) rfl
theorem wd_880 : (Cond.fieldLink "FewerManModel" 163 "FewerManModel" "paid" "J" : Jvm.Cond) ∈ m_tbl := m_tbl_of (List.mem_of_getElem? (i := 880) (by decide +kernel)) rfl
theorem wd_1134 : (Cond.methodLink "FewerManModel" 167 ⟨"FewerManModel", "keeps", "()V"⟩ : Jvm.Cond) ∈ m_tbl := m_tbl_of (List.mem_of_getElem? (i := 1134) (by decide +kernel)) rfl
theorem wd_1136 : (Cond.instanceMethod ⟨"FewerManModel", "keeps", "()V"⟩ : Jvm.Cond) ∈ m_tbl := m_tbl_of (List.mem_of_getElem? (i := 1136) (by decide +kernel)) rfl
theorem wd_41 : (Cond.selects "FewerManModel" ⟨"FewerManModel", "keeps", "()V"⟩ ⟨"FewerManModel", "keeps", "()V"⟩ : Jvm.Cond) ∈ m_tbl := m_tbl_of (List.mem_of_getElem? (i := 41) (by decide +kernel)) rfl
theorem wd_1138 : (Cond.methodLink "FewerManModel" 170 ⟨"FewerManModel", "beginsTwo", "(II)V"⟩ : Jvm.Cond) ∈ m_tbl := m_tbl_of (List.mem_of_getElem? (i := 1138) (by decide +kernel)) rfl
theorem wd_1140 : (Cond.instanceMethod ⟨"FewerManModel", "beginsTwo", "(II)V"⟩ : Jvm.Cond) ∈ m_tbl := m_tbl_of (List.mem_of_getElem? (i := 1140) (by decide +kernel)) rfl
theorem wd_42 : (Cond.selects "FewerManModel" ⟨"FewerManModel", "beginsTwo", "(II)V"⟩ ⟨"FewerManModel", "beginsTwo", "(II)V"⟩ : Jvm.Cond) ∈ m_tbl := m_tbl_of (List.mem_of_getElem? (i := 42) (by decide +kernel)) rfl
theorem wd_1142 : (Cond.methodLink "FewerManModel" 173 ⟨"FewerManModel", "gameOn", "(IIZ)V"⟩ : Jvm.Cond) ∈ m_tbl := m_tbl_of (List.mem_of_getElem? (i := 1142) (by decide +kernel)) rfl
theorem wd_1144 : (Cond.instanceMethod ⟨"FewerManModel", "gameOn", "(IIZ)V"⟩ : Jvm.Cond) ∈ m_tbl := m_tbl_of (List.mem_of_getElem? (i := 1144) (by decide +kernel)) rfl
theorem wd_43 : (Cond.selects "FewerManModel" ⟨"FewerManModel", "gameOn", "(IIZ)V"⟩ ⟨"FewerManModel", "gameOn", "(IIZ)V"⟩ : Jvm.Cond) ∈ m_tbl := m_tbl_of (List.mem_of_getElem? (i := 43) (by decide +kernel)) rfl
theorem wd_1147 : (Cond.methodLink "FewerManModel" 177 ⟨"FewerManModel", "goesBack", "()V"⟩ : Jvm.Cond) ∈ m_tbl := m_tbl_of (List.mem_of_getElem? (i := 1147) (by decide +kernel)) rfl
theorem wd_1149 : (Cond.instanceMethod ⟨"FewerManModel", "goesBack", "()V"⟩ : Jvm.Cond) ∈ m_tbl := m_tbl_of (List.mem_of_getElem? (i := 1149) (by decide +kernel)) rfl
theorem wd_44 : (Cond.selects "FewerManModel" ⟨"FewerManModel", "goesBack", "()V"⟩ ⟨"FewerManModel", "goesBack", "()V"⟩ : Jvm.Cond) ∈ m_tbl := m_tbl_of (List.mem_of_getElem? (i := 44) (by decide +kernel)) rfl
theorem wd_1125 : (Cond.methodLink "FewerManModel" 180 ⟨"FewerManModel", "areTwo", "(II)Z"⟩ : Jvm.Cond) ∈ m_tbl := m_tbl_of (List.mem_of_getElem? (i := 1125) (by decide +kernel)) rfl
theorem wd_1127 : (Cond.instanceMethod ⟨"FewerManModel", "areTwo", "(II)Z"⟩ : Jvm.Cond) ∈ m_tbl := m_tbl_of (List.mem_of_getElem? (i := 1127) (by decide +kernel)) rfl
theorem wd_39 : (Cond.selects "FewerManModel" ⟨"FewerManModel", "areTwo", "(II)Z"⟩ ⟨"FewerManModel", "areTwo", "(II)Z"⟩ : Jvm.Cond) ∈ m_tbl := m_tbl_of (List.mem_of_getElem? (i := 39) (by decide +kernel)) rfl
theorem wd_1129 : (Cond.constantLong "FewerManModel" 184 (-9223372036854775808) : Jvm.Cond) ∈ m_tbl := m_tbl_of (List.mem_of_getElem? (i := 1129) (by decide +kernel)) rfl
theorem wd_1130 : (Cond.methodLink "FewerManModel" 186 ⟨"FewerManModel", "gamesOn", "(IIIZ)V"⟩ : Jvm.Cond) ∈ m_tbl := m_tbl_of (List.mem_of_getElem? (i := 1130) (by decide +kernel)) rfl
theorem wd_1132 : (Cond.instanceMethod ⟨"FewerManModel", "gamesOn", "(IIIZ)V"⟩ : Jvm.Cond) ∈ m_tbl := m_tbl_of (List.mem_of_getElem? (i := 1132) (by decide +kernel)) rfl
theorem wd_40 : (Cond.selects "FewerManModel" ⟨"FewerManModel", "gamesOn", "(IIIZ)V"⟩ ⟨"FewerManModel", "gamesOn", "(IIIZ)V"⟩ : Jvm.Cond) ∈ m_tbl := m_tbl_of (List.mem_of_getElem? (i := 40) (by decide +kernel)) rfl
theorem wd_1151 : (Cond.methodLink "FewerManModel" 190 ⟨"FewerManModel", "tens", "(I)J"⟩ : Jvm.Cond) ∈ m_tbl := m_tbl_of (List.mem_of_getElem? (i := 1151) (by decide +kernel)) rfl
theorem wd_1152 : (Cond.static ⟨"FewerManModel", "tens", "(I)J"⟩ : Jvm.Cond) ∈ m_tbl := m_tbl_of (List.mem_of_getElem? (i := 1152) (by decide +kernel)) rfl
theorem wd_1154 : (Cond.methodLink "FewerManModel" 194 ⟨"FewerManModel", "lowest", "(JJI)J"⟩ : Jvm.Cond) ∈ m_tbl := m_tbl_of (List.mem_of_getElem? (i := 1154) (by decide +kernel)) rfl
theorem wd_1155 : (Cond.static ⟨"FewerManModel", "lowest", "(JJI)J"⟩ : Jvm.Cond) ∈ m_tbl := m_tbl_of (List.mem_of_getElem? (i := 1155) (by decide +kernel)) rfl
theorem wd_1165 : (Cond.methodLink "FewerManModel" 198 ⟨"FewerManModel", "firsts", "(IIIII)J"⟩ : Jvm.Cond) ∈ m_tbl := m_tbl_of (List.mem_of_getElem? (i := 1165) (by decide +kernel)) rfl
theorem wd_1167 : (Cond.instanceMethod ⟨"FewerManModel", "firsts", "(IIIII)J"⟩ : Jvm.Cond) ∈ m_tbl := m_tbl_of (List.mem_of_getElem? (i := 1167) (by decide +kernel)) rfl
theorem wd_45 : (Cond.selects "FewerManModel" ⟨"FewerManModel", "firsts", "(IIIII)J"⟩ ⟨"FewerManModel", "firsts", "(IIIII)J"⟩ : Jvm.Cond) ∈ m_tbl := m_tbl_of (List.mem_of_getElem? (i := 45) (by decide +kernel)) rfl
theorem wd_881 : (Cond.fieldLink "FewerManModel" 202 "FewerManModel" "isLost" "Z" : Jvm.Cond) ∈ m_tbl := m_tbl_of (List.mem_of_getElem? (i := 881) (by decide +kernel)) rfl
theorem wd_1185 : (Cond.methodLink "FewerManModel" 205 ⟨"FewerManModel", "bestFor", "(III)J"⟩ : Jvm.Cond) ∈ m_tbl := m_tbl_of (List.mem_of_getElem? (i := 1185) (by decide +kernel)) rfl
theorem wd_1187 : (Cond.instanceMethod ⟨"FewerManModel", "bestFor", "(III)J"⟩ : Jvm.Cond) ∈ m_tbl := m_tbl_of (List.mem_of_getElem? (i := 1187) (by decide +kernel)) rfl
theorem wd_46 : (Cond.selects "FewerManModel" ⟨"FewerManModel", "bestFor", "(III)J"⟩ ⟨"FewerManModel", "bestFor", "(III)J"⟩ : Jvm.Cond) ∈ m_tbl := m_tbl_of (List.mem_of_getElem? (i := 46) (by decide +kernel)) rfl
theorem wd_1210 : (Cond.methodLink "FewerManModel" 209 ⟨"FewerManModel", "wonBy", "(III)J"⟩ : Jvm.Cond) ∈ m_tbl := m_tbl_of (List.mem_of_getElem? (i := 1210) (by decide +kernel)) rfl
theorem wd_1212 : (Cond.instanceMethod ⟨"FewerManModel", "wonBy", "(III)J"⟩ : Jvm.Cond) ∈ m_tbl := m_tbl_of (List.mem_of_getElem? (i := 1212) (by decide +kernel)) rfl
theorem wd_50 : (Cond.selects "FewerManModel" ⟨"FewerManModel", "wonBy", "(III)J"⟩ ⟨"FewerManModel", "wonBy", "(III)J"⟩ : Jvm.Cond) ∈ m_tbl := m_tbl_of (List.mem_of_getElem? (i := 50) (by decide +kernel)) rfl
theorem wd_884 : (Cond.fieldLink "FewerManModel" 212 "FewerManModel" "bestWon" "J" : Jvm.Cond) ∈ m_tbl := m_tbl_of (List.mem_of_getElem? (i := 884) (by decide +kernel)) rfl
theorem wd_1206 : (Cond.methodLink "FewerManModel" 215 ⟨"FewerManModel", "ordersFrom", "(III)V"⟩ : Jvm.Cond) ∈ m_tbl := m_tbl_of (List.mem_of_getElem? (i := 1206) (by decide +kernel)) rfl
theorem wd_1208 : (Cond.instanceMethod ⟨"FewerManModel", "ordersFrom", "(III)V"⟩ : Jvm.Cond) ∈ m_tbl := m_tbl_of (List.mem_of_getElem? (i := 1208) (by decide +kernel)) rfl
theorem wd_49 : (Cond.selects "FewerManModel" ⟨"FewerManModel", "ordersFrom", "(III)V"⟩ ⟨"FewerManModel", "ordersFrom", "(III)V"⟩ : Jvm.Cond) ∈ m_tbl := m_tbl_of (List.mem_of_getElem? (i := 49) (by decide +kernel)) rfl
theorem wd_1205 : (Cond.constantLong "FewerManModel" 219 (-1) : Jvm.Cond) ∈ m_tbl := m_tbl_of (List.mem_of_getElem? (i := 1205) (by decide +kernel)) rfl
theorem wd_1197 : (Cond.methodLink "FewerManModel" 221 ⟨"FewerManModel", "isSet", "(II)Z"⟩ : Jvm.Cond) ∈ m_tbl := m_tbl_of (List.mem_of_getElem? (i := 1197) (by decide +kernel)) rfl
theorem wd_1199 : (Cond.instanceMethod ⟨"FewerManModel", "isSet", "(II)Z"⟩ : Jvm.Cond) ∈ m_tbl := m_tbl_of (List.mem_of_getElem? (i := 1199) (by decide +kernel)) rfl
theorem wd_47 : (Cond.selects "FewerManModel" ⟨"FewerManModel", "isSet", "(II)Z"⟩ ⟨"FewerManModel", "isSet", "(II)Z"⟩ : Jvm.Cond) ∈ m_tbl := m_tbl_of (List.mem_of_getElem? (i := 47) (by decide +kernel)) rfl
theorem wd_1201 : (Cond.methodLink "FewerManModel" 224 ⟨"FewerManModel", "looksForOrder", "(II)V"⟩ : Jvm.Cond) ∈ m_tbl := m_tbl_of (List.mem_of_getElem? (i := 1201) (by decide +kernel)) rfl
theorem wd_1203 : (Cond.instanceMethod ⟨"FewerManModel", "looksForOrder", "(II)V"⟩ : Jvm.Cond) ∈ m_tbl := m_tbl_of (List.mem_of_getElem? (i := 1203) (by decide +kernel)) rfl
theorem wd_48 : (Cond.selects "FewerManModel" ⟨"FewerManModel", "looksForOrder", "(II)V"⟩ ⟨"FewerManModel", "looksForOrder", "(II)V"⟩ : Jvm.Cond) ∈ m_tbl := m_tbl_of (List.mem_of_getElem? (i := 48) (by decide +kernel)) rfl
theorem wd_1226 : (Cond.methodLink "FewerManModel" 227 ⟨"FewerManModel", "nextTable", "(IIIIII)J"⟩ : Jvm.Cond) ∈ m_tbl := m_tbl_of (List.mem_of_getElem? (i := 1226) (by decide +kernel)) rfl
theorem wd_1228 : (Cond.instanceMethod ⟨"FewerManModel", "nextTable", "(IIIIII)J"⟩ : Jvm.Cond) ∈ m_tbl := m_tbl_of (List.mem_of_getElem? (i := 1228) (by decide +kernel)) rfl
theorem wd_52 : (Cond.selects "FewerManModel" ⟨"FewerManModel", "nextTable", "(IIIIII)J"⟩ ⟨"FewerManModel", "nextTable", "(IIIIII)J"⟩ : Jvm.Cond) ∈ m_tbl := m_tbl_of (List.mem_of_getElem? (i := 52) (by decide +kernel)) rfl
theorem wd_1222 : (Cond.methodLink "FewerManModel" 231 ⟨"FewerManModel", "tables", "(IIIIII)J"⟩ : Jvm.Cond) ∈ m_tbl := m_tbl_of (List.mem_of_getElem? (i := 1222) (by decide +kernel)) rfl
theorem wd_1224 : (Cond.instanceMethod ⟨"FewerManModel", "tables", "(IIIIII)J"⟩ : Jvm.Cond) ∈ m_tbl := m_tbl_of (List.mem_of_getElem? (i := 1224) (by decide +kernel)) rfl
theorem wd_51 : (Cond.selects "FewerManModel" ⟨"FewerManModel", "tables", "(IIIIII)J"⟩ ⟨"FewerManModel", "tables", "(IIIIII)J"⟩ : Jvm.Cond) ∈ m_tbl := m_tbl_of (List.mem_of_getElem? (i := 51) (by decide +kernel)) rfl
theorem wd_1238 : (Cond.methodLink "FewerManModel" 234 ⟨"FewerManModel", "booksGame", "(I)V"⟩ : Jvm.Cond) ∈ m_tbl := m_tbl_of (List.mem_of_getElem? (i := 1238) (by decide +kernel)) rfl
theorem wd_1240 : (Cond.instanceMethod ⟨"FewerManModel", "booksGame", "(I)V"⟩ : Jvm.Cond) ∈ m_tbl := m_tbl_of (List.mem_of_getElem? (i := 1240) (by decide +kernel)) rfl
theorem wd_53 : (Cond.selects "FewerManModel" ⟨"FewerManModel", "booksGame", "(I)V"⟩ ⟨"FewerManModel", "booksGame", "(I)V"⟩ : Jvm.Cond) ∈ m_tbl := m_tbl_of (List.mem_of_getElem? (i := 53) (by decide +kernel)) rfl
theorem wd_886 : (Cond.fieldLink "FewerManModel" 237 "FewerManModel" "ran" "I" : Jvm.Cond) ∈ m_tbl := m_tbl_of (List.mem_of_getElem? (i := 886) (by decide +kernel)) rfl
theorem wd_1265 : (Cond.methodLink "FewerManModel" 240 ⟨"FewerManModel", "ranBody", "(I)V"⟩ : Jvm.Cond) ∈ m_tbl := m_tbl_of (List.mem_of_getElem? (i := 1265) (by decide +kernel)) rfl
theorem wd_1267 : (Cond.instanceMethod ⟨"FewerManModel", "ranBody", "(I)V"⟩ : Jvm.Cond) ∈ m_tbl := m_tbl_of (List.mem_of_getElem? (i := 1267) (by decide +kernel)) rfl
theorem wd_55 : (Cond.selects "FewerManModel" ⟨"FewerManModel", "ranBody", "(I)V"⟩ ⟨"FewerManModel", "ranBody", "(I)V"⟩ : Jvm.Cond) ∈ m_tbl := m_tbl_of (List.mem_of_getElem? (i := 55) (by decide +kernel)) rfl
theorem wd_888 : (Cond.fieldLink "FewerManModel" 243 "FewerManModel" "number" "I" : Jvm.Cond) ∈ m_tbl := m_tbl_of (List.mem_of_getElem? (i := 888) (by decide +kernel)) rfl
theorem wd_887 : (Cond.fieldLink "FewerManModel" 246 "FewerManModel" "kind" "I" : Jvm.Cond) ∈ m_tbl := m_tbl_of (List.mem_of_getElem? (i := 887) (by decide +kernel)) rfl
theorem wd_1262 : (Cond.methodLink "FewerManModel" 249 ⟨"FewerManModel", "isUnder", "(II)Z"⟩ : Jvm.Cond) ∈ m_tbl := m_tbl_of (List.mem_of_getElem? (i := 1262) (by decide +kernel)) rfl
theorem wd_1263 : (Cond.static ⟨"FewerManModel", "isUnder", "(II)Z"⟩ : Jvm.Cond) ∈ m_tbl := m_tbl_of (List.mem_of_getElem? (i := 1263) (by decide +kernel)) rfl
theorem wd_1269 : (Cond.methodLink "FewerManModel" 252 ⟨"FewerManModel", "plainMoves", "(I)I"⟩ : Jvm.Cond) ∈ m_tbl := m_tbl_of (List.mem_of_getElem? (i := 1269) (by decide +kernel)) rfl
theorem wd_1271 : (Cond.instanceMethod ⟨"FewerManModel", "plainMoves", "(I)I"⟩ : Jvm.Cond) ∈ m_tbl := m_tbl_of (List.mem_of_getElem? (i := 1271) (by decide +kernel)) rfl
theorem wd_56 : (Cond.selects "FewerManModel" ⟨"FewerManModel", "plainMoves", "(I)I"⟩ ⟨"FewerManModel", "plainMoves", "(I)I"⟩ : Jvm.Cond) ∈ m_tbl := m_tbl_of (List.mem_of_getElem? (i := 56) (by decide +kernel)) rfl
theorem wd_1258 : (Cond.methodLink "FewerManModel" 255 ⟨"FewerManModel", "movesActs", "(I)I"⟩ : Jvm.Cond) ∈ m_tbl := m_tbl_of (List.mem_of_getElem? (i := 1258) (by decide +kernel)) rfl
theorem wd_1260 : (Cond.instanceMethod ⟨"FewerManModel", "movesActs", "(I)I"⟩ : Jvm.Cond) ∈ m_tbl := m_tbl_of (List.mem_of_getElem? (i := 1260) (by decide +kernel)) rfl
theorem wd_54 : (Cond.selects "FewerManModel" ⟨"FewerManModel", "movesActs", "(I)I"⟩ ⟨"FewerManModel", "movesActs", "(I)I"⟩ : Jvm.Cond) ∈ m_tbl := m_tbl_of (List.mem_of_getElem? (i := 54) (by decide +kernel)) rfl
theorem wd_889 : (Cond.fieldLink "FewerManModel" 258 "FewerManModel" "tellsV" "I" : Jvm.Cond) ∈ m_tbl := m_tbl_of (List.mem_of_getElem? (i := 889) (by decide +kernel)) rfl
theorem wd_1277 : (Cond.methodLink "FewerManModel" 261 ⟨"FewerManModel", "plainBets", "(I)I"⟩ : Jvm.Cond) ∈ m_tbl := m_tbl_of (List.mem_of_getElem? (i := 1277) (by decide +kernel)) rfl
theorem wd_1279 : (Cond.instanceMethod ⟨"FewerManModel", "plainBets", "(I)I"⟩ : Jvm.Cond) ∈ m_tbl := m_tbl_of (List.mem_of_getElem? (i := 1279) (by decide +kernel)) rfl
theorem wd_58 : (Cond.selects "FewerManModel" ⟨"FewerManModel", "plainBets", "(I)I"⟩ ⟨"FewerManModel", "plainBets", "(I)I"⟩ : Jvm.Cond) ∈ m_tbl := m_tbl_of (List.mem_of_getElem? (i := 58) (by decide +kernel)) rfl
theorem wd_1273 : (Cond.methodLink "FewerManModel" 264 ⟨"FewerManModel", "betsActs", "(I)I"⟩ : Jvm.Cond) ∈ m_tbl := m_tbl_of (List.mem_of_getElem? (i := 1273) (by decide +kernel)) rfl
theorem wd_1275 : (Cond.instanceMethod ⟨"FewerManModel", "betsActs", "(I)I"⟩ : Jvm.Cond) ∈ m_tbl := m_tbl_of (List.mem_of_getElem? (i := 1275) (by decide +kernel)) rfl
theorem wd_57 : (Cond.selects "FewerManModel" ⟨"FewerManModel", "betsActs", "(I)I"⟩ ⟨"FewerManModel", "betsActs", "(I)I"⟩ : Jvm.Cond) ∈ m_tbl := m_tbl_of (List.mem_of_getElem? (i := 57) (by decide +kernel)) rfl
theorem wd_1285 : (Cond.methodLink "FewerManModel" 267 ⟨"FewerManModel", "plainTells", "(I)I"⟩ : Jvm.Cond) ∈ m_tbl := m_tbl_of (List.mem_of_getElem? (i := 1285) (by decide +kernel)) rfl
theorem wd_1287 : (Cond.instanceMethod ⟨"FewerManModel", "plainTells", "(I)I"⟩ : Jvm.Cond) ∈ m_tbl := m_tbl_of (List.mem_of_getElem? (i := 1287) (by decide +kernel)) rfl
theorem wd_60 : (Cond.selects "FewerManModel" ⟨"FewerManModel", "plainTells", "(I)I"⟩ ⟨"FewerManModel", "plainTells", "(I)I"⟩ : Jvm.Cond) ∈ m_tbl := m_tbl_of (List.mem_of_getElem? (i := 60) (by decide +kernel)) rfl
theorem wd_1281 : (Cond.methodLink "FewerManModel" 270 ⟨"FewerManModel", "tellsActs", "(I)I"⟩ : Jvm.Cond) ∈ m_tbl := m_tbl_of (List.mem_of_getElem? (i := 1281) (by decide +kernel)) rfl
theorem wd_1283 : (Cond.instanceMethod ⟨"FewerManModel", "tellsActs", "(I)I"⟩ : Jvm.Cond) ∈ m_tbl := m_tbl_of (List.mem_of_getElem? (i := 1283) (by decide +kernel)) rfl
theorem wd_59 : (Cond.selects "FewerManModel" ⟨"FewerManModel", "tellsActs", "(I)I"⟩ ⟨"FewerManModel", "tellsActs", "(I)I"⟩ : Jvm.Cond) ∈ m_tbl := m_tbl_of (List.mem_of_getElem? (i := 59) (by decide +kernel)) rfl
theorem wd_870 : (Cond.fieldLink "FewerManModel" 273 "FewerManModel" "hasImage" "Z" : Jvm.Cond) ∈ m_tbl := m_tbl_of (List.mem_of_getElem? (i := 870) (by decide +kernel)) rfl
theorem wd_709 : (Cond.constant "java/lang/Integer" 265 (1431655765) : Jvm.Cond) ∈ m_tbl := m_tbl_of (List.mem_of_getElem? (i := 709) (by decide +kernel)) rfl
theorem wd_710 : (Cond.constant "java/lang/Integer" 266 (858993459) : Jvm.Cond) ∈ m_tbl := m_tbl_of (List.mem_of_getElem? (i := 710) (by decide +kernel)) rfl
theorem wd_711 : (Cond.constant "java/lang/Integer" 267 (252645135) : Jvm.Cond) ∈ m_tbl := m_tbl_of (List.mem_of_getElem? (i := 711) (by decide +kernel)) rfl
theorem wd_1309 : (Cond.fieldLink "java/lang/String" 9 "java/lang/String" "value" "[B" : Jvm.Cond) ∈ m_tbl := m_tbl_of (List.mem_of_getElem? (i := 1309) (by decide +kernel)) rfl
theorem wd_979 : (Cond.methodLink "java/lang/String" 335 ⟨"java/lang/String", "coder", "()B"⟩ : Jvm.Cond) ∈ m_tbl := m_tbl_of (List.mem_of_getElem? (i := 979) (by decide +kernel)) rfl
theorem wd_980 : (Cond.instanceMethod ⟨"java/lang/String", "coder", "()B"⟩ : Jvm.Cond) ∈ m_tbl := m_tbl_of (List.mem_of_getElem? (i := 980) (by decide +kernel)) rfl
theorem wd_981 : (Cond.selects "java/lang/String" ⟨"java/lang/String", "coder", "()B"⟩ ⟨"java/lang/String", "coder", "()B"⟩ : Jvm.Cond) ∈ m_tbl := m_tbl_of (List.mem_of_getElem? (i := 981) (by decide +kernel)) rfl
theorem wd_989 : (Cond.methodLink "java/lang/String" 492 ⟨"java/lang/String", "isLatin1", "()Z"⟩ : Jvm.Cond) ∈ m_tbl := m_tbl_of (List.mem_of_getElem? (i := 989) (by decide +kernel)) rfl
theorem wd_990 : (Cond.instanceMethod ⟨"java/lang/String", "isLatin1", "()Z"⟩ : Jvm.Cond) ∈ m_tbl := m_tbl_of (List.mem_of_getElem? (i := 990) (by decide +kernel)) rfl
theorem wd_991 : (Cond.selects "java/lang/String" ⟨"java/lang/String", "isLatin1", "()Z"⟩ ⟨"java/lang/String", "isLatin1", "()Z"⟩ : Jvm.Cond) ∈ m_tbl := m_tbl_of (List.mem_of_getElem? (i := 991) (by decide +kernel)) rfl
theorem wd_993 : (Cond.methodLink "java/lang/String" 495 ⟨"java/lang/StringLatin1", "charAt", "([BI)C"⟩ : Jvm.Cond) ∈ m_tbl := m_tbl_of (List.mem_of_getElem? (i := 993) (by decide +kernel)) rfl
theorem wd_994 : (Cond.static ⟨"java/lang/StringLatin1", "charAt", "([BI)C"⟩ : Jvm.Cond) ∈ m_tbl := m_tbl_of (List.mem_of_getElem? (i := 994) (by decide +kernel)) rfl
theorem wd_76 : (Cond.initialized "java/lang/StringLatin1" : Jvm.Cond) ∈ m_tbl := m_tbl_of (List.mem_of_getElem? (i := 76) (by decide +kernel)) rfl
theorem wd_983 : (Cond.fieldLink "java/lang/String" 38 "java/lang/String" "COMPACT_STRINGS" "Z" : Jvm.Cond) ∈ m_tbl := m_tbl_of (List.mem_of_getElem? (i := 983) (by decide +kernel)) rfl
theorem wd_1310 : (Cond.fieldLink "java/lang/String" 15 "java/lang/String" "coder" "B" : Jvm.Cond) ∈ m_tbl := m_tbl_of (List.mem_of_getElem? (i := 1310) (by decide +kernel)) rfl
theorem wd_999 : (Cond.fieldLink "java/lang/String" 1053 "jdk/internal/util/Preconditions" "SIOOBE_FORMATTER" "Ljava/util/function/BiFunction;" : Jvm.Cond) ∈ m_tbl := m_tbl_of (List.mem_of_getElem? (i := 999) (by decide +kernel)) rfl
theorem wd_1001 : (Cond.methodLink "java/lang/String" 1059 ⟨"jdk/internal/util/Preconditions", "checkIndex", "(IILjava/util/function/BiFunction;)I"⟩ : Jvm.Cond) ∈ m_tbl := m_tbl_of (List.mem_of_getElem? (i := 1001) (by decide +kernel)) rfl
theorem wd_1002 : (Cond.static ⟨"jdk/internal/util/Preconditions", "checkIndex", "(IILjava/util/function/BiFunction;)I"⟩ : Jvm.Cond) ∈ m_tbl := m_tbl_of (List.mem_of_getElem? (i := 1002) (by decide +kernel)) rfl
theorem wd_77 : (Cond.initialized "jdk/internal/util/Preconditions" : Jvm.Cond) ∈ m_tbl := m_tbl_of (List.mem_of_getElem? (i := 77) (by decide +kernel)) rfl
theorem wd_996 : (Cond.methodLink "java/lang/StringLatin1" 9 ⟨"java/lang/String", "checkIndex", "(II)V"⟩ : Jvm.Cond) ∈ m_tbl := m_tbl_of (List.mem_of_getElem? (i := 996) (by decide +kernel)) rfl
theorem wd_997 : (Cond.static ⟨"java/lang/String", "checkIndex", "(II)V"⟩ : Jvm.Cond) ∈ m_tbl := m_tbl_of (List.mem_of_getElem? (i := 997) (by decide +kernel)) rfl
theorem wd_80 : (Cond.classLink "FewerManLaw" 7 "FewerMan" : Jvm.Cond) ∈ m_tbl := m_tbl_of (List.mem_of_getElem? (i := 80) (by decide +kernel)) rfl
theorem wd_81 : (Cond.instantiable "FewerMan" 10 : Jvm.Cond) ∈ m_tbl := m_tbl_of (List.mem_of_getElem? (i := 81) (by decide +kernel)) rfl
theorem wd_82 : (Cond.methodLink "FewerManLaw" 9 ⟨"FewerMan", "<init>", "()V"⟩ : Jvm.Cond) ∈ m_tbl := m_tbl_of (List.mem_of_getElem? (i := 82) (by decide +kernel)) rfl
theorem wd_83 : (Cond.instanceMethod ⟨"FewerMan", "<init>", "()V"⟩ : Jvm.Cond) ∈ m_tbl := m_tbl_of (List.mem_of_getElem? (i := 83) (by decide +kernel)) rfl
theorem wd_861 : (Cond.classLink "FewerManLaw" 10 "FewerManModel" : Jvm.Cond) ∈ m_tbl := m_tbl_of (List.mem_of_getElem? (i := 861) (by decide +kernel)) rfl
theorem wd_862 : (Cond.instantiable "FewerManModel" 24 : Jvm.Cond) ∈ m_tbl := m_tbl_of (List.mem_of_getElem? (i := 862) (by decide +kernel)) rfl
theorem wd_863 : (Cond.methodLink "FewerManLaw" 12 ⟨"FewerManModel", "<init>", "()V"⟩ : Jvm.Cond) ∈ m_tbl := m_tbl_of (List.mem_of_getElem? (i := 863) (by decide +kernel)) rfl
theorem wd_864 : (Cond.instanceMethod ⟨"FewerManModel", "<init>", "()V"⟩ : Jvm.Cond) ∈ m_tbl := m_tbl_of (List.mem_of_getElem? (i := 864) (by decide +kernel)) rfl
theorem wd_379 : (Cond.methodLink "FewerManLaw" 13 ⟨"FewerMan", "feed", "(I)I"⟩ : Jvm.Cond) ∈ m_tbl := m_tbl_of (List.mem_of_getElem? (i := 379) (by decide +kernel)) rfl
theorem wd_380 : (Cond.instanceMethod ⟨"FewerMan", "feed", "(I)I"⟩ : Jvm.Cond) ∈ m_tbl := m_tbl_of (List.mem_of_getElem? (i := 380) (by decide +kernel)) rfl
theorem wd_381 : (Cond.selects "FewerMan" ⟨"FewerMan", "feed", "(I)I"⟩ ⟨"FewerMan", "feed", "(I)I"⟩ : Jvm.Cond) ∈ m_tbl := m_tbl_of (List.mem_of_getElem? (i := 381) (by decide +kernel)) rfl
theorem wd_939 : (Cond.methodLink "FewerManLaw" 17 ⟨"FewerManModel", "feed", "(I)I"⟩ : Jvm.Cond) ∈ m_tbl := m_tbl_of (List.mem_of_getElem? (i := 939) (by decide +kernel)) rfl
theorem wd_940 : (Cond.instanceMethod ⟨"FewerManModel", "feed", "(I)I"⟩ : Jvm.Cond) ∈ m_tbl := m_tbl_of (List.mem_of_getElem? (i := 940) (by decide +kernel)) rfl
theorem wd_941 : (Cond.selects "FewerManModel" ⟨"FewerManModel", "feed", "(I)I"⟩ ⟨"FewerManModel", "feed", "(I)I"⟩ : Jvm.Cond) ∈ m_tbl := m_tbl_of (List.mem_of_getElem? (i := 941) (by decide +kernel)) rfl
theorem wd_383 : (Cond.methodLink "FewerManLaw" 18 ⟨"FewerMan", "inn", "()I"⟩ : Jvm.Cond) ∈ m_tbl := m_tbl_of (List.mem_of_getElem? (i := 383) (by decide +kernel)) rfl
theorem wd_384 : (Cond.instanceMethod ⟨"FewerMan", "inn", "()I"⟩ : Jvm.Cond) ∈ m_tbl := m_tbl_of (List.mem_of_getElem? (i := 384) (by decide +kernel)) rfl
theorem wd_385 : (Cond.selects "FewerMan" ⟨"FewerMan", "inn", "()I"⟩ ⟨"FewerMan", "inn", "()I"⟩ : Jvm.Cond) ∈ m_tbl := m_tbl_of (List.mem_of_getElem? (i := 385) (by decide +kernel)) rfl
theorem wd_946 : (Cond.methodLink "FewerManLaw" 22 ⟨"FewerManModel", "inn", "()I"⟩ : Jvm.Cond) ∈ m_tbl := m_tbl_of (List.mem_of_getElem? (i := 946) (by decide +kernel)) rfl
theorem wd_947 : (Cond.instanceMethod ⟨"FewerManModel", "inn", "()I"⟩ : Jvm.Cond) ∈ m_tbl := m_tbl_of (List.mem_of_getElem? (i := 947) (by decide +kernel)) rfl
theorem wd_948 : (Cond.selects "FewerManModel" ⟨"FewerManModel", "inn", "()I"⟩ ⟨"FewerManModel", "inn", "()I"⟩ : Jvm.Cond) ∈ m_tbl := m_tbl_of (List.mem_of_getElem? (i := 948) (by decide +kernel)) rfl
theorem wd_466 : (Cond.methodLink "FewerManLaw" 23 ⟨"FewerMan", "player", "(II)I"⟩ : Jvm.Cond) ∈ m_tbl := m_tbl_of (List.mem_of_getElem? (i := 466) (by decide +kernel)) rfl
theorem wd_467 : (Cond.instanceMethod ⟨"FewerMan", "player", "(II)I"⟩ : Jvm.Cond) ∈ m_tbl := m_tbl_of (List.mem_of_getElem? (i := 467) (by decide +kernel)) rfl
theorem wd_468 : (Cond.selects "FewerMan" ⟨"FewerMan", "player", "(II)I"⟩ ⟨"FewerMan", "player", "(II)I"⟩ : Jvm.Cond) ∈ m_tbl := m_tbl_of (List.mem_of_getElem? (i := 468) (by decide +kernel)) rfl
theorem wd_1057 : (Cond.methodLink "FewerManLaw" 27 ⟨"FewerManModel", "player", "(II)I"⟩ : Jvm.Cond) ∈ m_tbl := m_tbl_of (List.mem_of_getElem? (i := 1057) (by decide +kernel)) rfl
theorem wd_1058 : (Cond.instanceMethod ⟨"FewerManModel", "player", "(II)I"⟩ : Jvm.Cond) ∈ m_tbl := m_tbl_of (List.mem_of_getElem? (i := 1058) (by decide +kernel)) rfl
theorem wd_1059 : (Cond.selects "FewerManModel" ⟨"FewerManModel", "player", "(II)I"⟩ ⟨"FewerManModel", "player", "(II)I"⟩ : Jvm.Cond) ∈ m_tbl := m_tbl_of (List.mem_of_getElem? (i := 1059) (by decide +kernel)) rfl
theorem wd_477 : (Cond.methodLink "FewerManLaw" 28 ⟨"FewerMan", "of", "(II)I"⟩ : Jvm.Cond) ∈ m_tbl := m_tbl_of (List.mem_of_getElem? (i := 477) (by decide +kernel)) rfl
theorem wd_478 : (Cond.instanceMethod ⟨"FewerMan", "of", "(II)I"⟩ : Jvm.Cond) ∈ m_tbl := m_tbl_of (List.mem_of_getElem? (i := 478) (by decide +kernel)) rfl
theorem wd_479 : (Cond.selects "FewerMan" ⟨"FewerMan", "of", "(II)I"⟩ ⟨"FewerMan", "of", "(II)I"⟩ : Jvm.Cond) ∈ m_tbl := m_tbl_of (List.mem_of_getElem? (i := 479) (by decide +kernel)) rfl
theorem wd_1061 : (Cond.methodLink "FewerManLaw" 31 ⟨"FewerManModel", "of", "(II)I"⟩ : Jvm.Cond) ∈ m_tbl := m_tbl_of (List.mem_of_getElem? (i := 1061) (by decide +kernel)) rfl
theorem wd_1062 : (Cond.instanceMethod ⟨"FewerManModel", "of", "(II)I"⟩ : Jvm.Cond) ∈ m_tbl := m_tbl_of (List.mem_of_getElem? (i := 1062) (by decide +kernel)) rfl
theorem wd_1063 : (Cond.selects "FewerManModel" ⟨"FewerManModel", "of", "(II)I"⟩ ⟨"FewerManModel", "of", "(II)I"⟩ : Jvm.Cond) ∈ m_tbl := m_tbl_of (List.mem_of_getElem? (i := 1063) (by decide +kernel)) rfl
theorem wd_485 : (Cond.methodLink "FewerManLaw" 32 ⟨"FewerMan", "men", "(II)I"⟩ : Jvm.Cond) ∈ m_tbl := m_tbl_of (List.mem_of_getElem? (i := 485) (by decide +kernel)) rfl
theorem wd_486 : (Cond.instanceMethod ⟨"FewerMan", "men", "(II)I"⟩ : Jvm.Cond) ∈ m_tbl := m_tbl_of (List.mem_of_getElem? (i := 486) (by decide +kernel)) rfl
theorem wd_487 : (Cond.selects "FewerMan" ⟨"FewerMan", "men", "(II)I"⟩ ⟨"FewerMan", "men", "(II)I"⟩ : Jvm.Cond) ∈ m_tbl := m_tbl_of (List.mem_of_getElem? (i := 487) (by decide +kernel)) rfl
theorem wd_1069 : (Cond.methodLink "FewerManLaw" 35 ⟨"FewerManModel", "men", "(II)I"⟩ : Jvm.Cond) ∈ m_tbl := m_tbl_of (List.mem_of_getElem? (i := 1069) (by decide +kernel)) rfl
theorem wd_1070 : (Cond.instanceMethod ⟨"FewerManModel", "men", "(II)I"⟩ : Jvm.Cond) ∈ m_tbl := m_tbl_of (List.mem_of_getElem? (i := 1070) (by decide +kernel)) rfl
theorem wd_1071 : (Cond.selects "FewerManModel" ⟨"FewerManModel", "men", "(II)I"⟩ ⟨"FewerManModel", "men", "(II)I"⟩ : Jvm.Cond) ∈ m_tbl := m_tbl_of (List.mem_of_getElem? (i := 1071) (by decide +kernel)) rfl
theorem wd_492 : (Cond.methodLink "FewerManLaw" 36 ⟨"FewerMan", "row", "(III)I"⟩ : Jvm.Cond) ∈ m_tbl := m_tbl_of (List.mem_of_getElem? (i := 492) (by decide +kernel)) rfl
theorem wd_493 : (Cond.instanceMethod ⟨"FewerMan", "row", "(III)I"⟩ : Jvm.Cond) ∈ m_tbl := m_tbl_of (List.mem_of_getElem? (i := 493) (by decide +kernel)) rfl
theorem wd_494 : (Cond.selects "FewerMan" ⟨"FewerMan", "row", "(III)I"⟩ ⟨"FewerMan", "row", "(III)I"⟩ : Jvm.Cond) ∈ m_tbl := m_tbl_of (List.mem_of_getElem? (i := 494) (by decide +kernel)) rfl
theorem wd_1073 : (Cond.methodLink "FewerManLaw" 40 ⟨"FewerManModel", "row", "(III)I"⟩ : Jvm.Cond) ∈ m_tbl := m_tbl_of (List.mem_of_getElem? (i := 1073) (by decide +kernel)) rfl
theorem wd_1074 : (Cond.instanceMethod ⟨"FewerManModel", "row", "(III)I"⟩ : Jvm.Cond) ∈ m_tbl := m_tbl_of (List.mem_of_getElem? (i := 1074) (by decide +kernel)) rfl
theorem wd_1075 : (Cond.selects "FewerManModel" ⟨"FewerManModel", "row", "(III)I"⟩ ⟨"FewerManModel", "row", "(III)I"⟩ : Jvm.Cond) ∈ m_tbl := m_tbl_of (List.mem_of_getElem? (i := 1075) (by decide +kernel)) rfl
theorem wd_496 : (Cond.methodLink "FewerManLaw" 41 ⟨"FewerMan", "told", "(I)I"⟩ : Jvm.Cond) ∈ m_tbl := m_tbl_of (List.mem_of_getElem? (i := 496) (by decide +kernel)) rfl
theorem wd_497 : (Cond.instanceMethod ⟨"FewerMan", "told", "(I)I"⟩ : Jvm.Cond) ∈ m_tbl := m_tbl_of (List.mem_of_getElem? (i := 497) (by decide +kernel)) rfl
theorem wd_498 : (Cond.selects "FewerMan" ⟨"FewerMan", "told", "(I)I"⟩ ⟨"FewerMan", "told", "(I)I"⟩ : Jvm.Cond) ∈ m_tbl := m_tbl_of (List.mem_of_getElem? (i := 498) (by decide +kernel)) rfl
theorem wd_1077 : (Cond.methodLink "FewerManLaw" 44 ⟨"FewerManModel", "told", "(I)I"⟩ : Jvm.Cond) ∈ m_tbl := m_tbl_of (List.mem_of_getElem? (i := 1077) (by decide +kernel)) rfl
theorem wd_1078 : (Cond.instanceMethod ⟨"FewerManModel", "told", "(I)I"⟩ : Jvm.Cond) ∈ m_tbl := m_tbl_of (List.mem_of_getElem? (i := 1078) (by decide +kernel)) rfl
theorem wd_1079 : (Cond.selects "FewerManModel" ⟨"FewerManModel", "told", "(I)I"⟩ ⟨"FewerManModel", "told", "(I)I"⟩ : Jvm.Cond) ∈ m_tbl := m_tbl_of (List.mem_of_getElem? (i := 1079) (by decide +kernel)) rfl
theorem wd_508 : (Cond.methodLink "FewerManLaw" 45 ⟨"FewerMan", "push", "(II)I"⟩ : Jvm.Cond) ∈ m_tbl := m_tbl_of (List.mem_of_getElem? (i := 508) (by decide +kernel)) rfl
theorem wd_509 : (Cond.instanceMethod ⟨"FewerMan", "push", "(II)I"⟩ : Jvm.Cond) ∈ m_tbl := m_tbl_of (List.mem_of_getElem? (i := 509) (by decide +kernel)) rfl
theorem wd_510 : (Cond.selects "FewerMan" ⟨"FewerMan", "push", "(II)I"⟩ ⟨"FewerMan", "push", "(II)I"⟩ : Jvm.Cond) ∈ m_tbl := m_tbl_of (List.mem_of_getElem? (i := 510) (by decide +kernel)) rfl
theorem wd_1085 : (Cond.methodLink "FewerManLaw" 48 ⟨"FewerManModel", "push", "(II)I"⟩ : Jvm.Cond) ∈ m_tbl := m_tbl_of (List.mem_of_getElem? (i := 1085) (by decide +kernel)) rfl
theorem wd_1086 : (Cond.instanceMethod ⟨"FewerManModel", "push", "(II)I"⟩ : Jvm.Cond) ∈ m_tbl := m_tbl_of (List.mem_of_getElem? (i := 1086) (by decide +kernel)) rfl
theorem wd_1087 : (Cond.selects "FewerManModel" ⟨"FewerManModel", "push", "(II)I"⟩ ⟨"FewerManModel", "push", "(II)I"⟩ : Jvm.Cond) ∈ m_tbl := m_tbl_of (List.mem_of_getElem? (i := 1087) (by decide +kernel)) rfl
theorem wd_536 : (Cond.methodLink "FewerManLaw" 49 ⟨"FewerMan", "odds", "(II)I"⟩ : Jvm.Cond) ∈ m_tbl := m_tbl_of (List.mem_of_getElem? (i := 536) (by decide +kernel)) rfl
theorem wd_537 : (Cond.instanceMethod ⟨"FewerMan", "odds", "(II)I"⟩ : Jvm.Cond) ∈ m_tbl := m_tbl_of (List.mem_of_getElem? (i := 537) (by decide +kernel)) rfl
theorem wd_538 : (Cond.selects "FewerMan" ⟨"FewerMan", "odds", "(II)I"⟩ ⟨"FewerMan", "odds", "(II)I"⟩ : Jvm.Cond) ∈ m_tbl := m_tbl_of (List.mem_of_getElem? (i := 538) (by decide +kernel)) rfl
theorem wd_1097 : (Cond.methodLink "FewerManLaw" 52 ⟨"FewerManModel", "odds", "(II)I"⟩ : Jvm.Cond) ∈ m_tbl := m_tbl_of (List.mem_of_getElem? (i := 1097) (by decide +kernel)) rfl
theorem wd_1098 : (Cond.instanceMethod ⟨"FewerManModel", "odds", "(II)I"⟩ : Jvm.Cond) ∈ m_tbl := m_tbl_of (List.mem_of_getElem? (i := 1098) (by decide +kernel)) rfl
theorem wd_1099 : (Cond.selects "FewerManModel" ⟨"FewerManModel", "odds", "(II)I"⟩ ⟨"FewerManModel", "odds", "(II)I"⟩ : Jvm.Cond) ∈ m_tbl := m_tbl_of (List.mem_of_getElem? (i := 1099) (by decide +kernel)) rfl
theorem wd_553 : (Cond.methodLink "FewerManLaw" 53 ⟨"FewerMan", "play", "(IIZ)I"⟩ : Jvm.Cond) ∈ m_tbl := m_tbl_of (List.mem_of_getElem? (i := 553) (by decide +kernel)) rfl
theorem wd_554 : (Cond.instanceMethod ⟨"FewerMan", "play", "(IIZ)I"⟩ : Jvm.Cond) ∈ m_tbl := m_tbl_of (List.mem_of_getElem? (i := 554) (by decide +kernel)) rfl
theorem wd_555 : (Cond.selects "FewerMan" ⟨"FewerMan", "play", "(IIZ)I"⟩ ⟨"FewerMan", "play", "(IIZ)I"⟩ : Jvm.Cond) ∈ m_tbl := m_tbl_of (List.mem_of_getElem? (i := 555) (by decide +kernel)) rfl
theorem wd_1105 : (Cond.methodLink "FewerManLaw" 57 ⟨"FewerManModel", "play", "(IIZ)I"⟩ : Jvm.Cond) ∈ m_tbl := m_tbl_of (List.mem_of_getElem? (i := 1105) (by decide +kernel)) rfl
theorem wd_1106 : (Cond.instanceMethod ⟨"FewerManModel", "play", "(IIZ)I"⟩ : Jvm.Cond) ∈ m_tbl := m_tbl_of (List.mem_of_getElem? (i := 1106) (by decide +kernel)) rfl
theorem wd_1107 : (Cond.selects "FewerManModel" ⟨"FewerManModel", "play", "(IIZ)I"⟩ ⟨"FewerManModel", "play", "(IIZ)I"⟩ : Jvm.Cond) ∈ m_tbl := m_tbl_of (List.mem_of_getElem? (i := 1107) (by decide +kernel)) rfl
theorem wd_571 : (Cond.methodLink "FewerManLaw" 58 ⟨"FewerMan", "wins", "(IIIII)J"⟩ : Jvm.Cond) ∈ m_tbl := m_tbl_of (List.mem_of_getElem? (i := 571) (by decide +kernel)) rfl
theorem wd_572 : (Cond.instanceMethod ⟨"FewerMan", "wins", "(IIIII)J"⟩ : Jvm.Cond) ∈ m_tbl := m_tbl_of (List.mem_of_getElem? (i := 572) (by decide +kernel)) rfl
theorem wd_573 : (Cond.selects "FewerMan" ⟨"FewerMan", "wins", "(IIIII)J"⟩ ⟨"FewerMan", "wins", "(IIIII)J"⟩ : Jvm.Cond) ∈ m_tbl := m_tbl_of (List.mem_of_getElem? (i := 573) (by decide +kernel)) rfl
theorem wd_1121 : (Cond.methodLink "FewerManLaw" 62 ⟨"FewerManModel", "wins", "(IIIII)J"⟩ : Jvm.Cond) ∈ m_tbl := m_tbl_of (List.mem_of_getElem? (i := 1121) (by decide +kernel)) rfl
theorem wd_1122 : (Cond.instanceMethod ⟨"FewerManModel", "wins", "(IIIII)J"⟩ : Jvm.Cond) ∈ m_tbl := m_tbl_of (List.mem_of_getElem? (i := 1122) (by decide +kernel)) rfl
theorem wd_1123 : (Cond.selects "FewerManModel" ⟨"FewerManModel", "wins", "(IIIII)J"⟩ ⟨"FewerManModel", "wins", "(IIIII)J"⟩ : Jvm.Cond) ∈ m_tbl := m_tbl_of (List.mem_of_getElem? (i := 1123) (by decide +kernel)) rfl
theorem wd_634 : (Cond.methodLink "FewerManLaw" 63 ⟨"FewerMan", "mean", "(IIII)J"⟩ : Jvm.Cond) ∈ m_tbl := m_tbl_of (List.mem_of_getElem? (i := 634) (by decide +kernel)) rfl
theorem wd_635 : (Cond.instanceMethod ⟨"FewerMan", "mean", "(IIII)J"⟩ : Jvm.Cond) ∈ m_tbl := m_tbl_of (List.mem_of_getElem? (i := 635) (by decide +kernel)) rfl
theorem wd_636 : (Cond.selects "FewerMan" ⟨"FewerMan", "mean", "(IIII)J"⟩ ⟨"FewerMan", "mean", "(IIII)J"⟩ : Jvm.Cond) ∈ m_tbl := m_tbl_of (List.mem_of_getElem? (i := 636) (by decide +kernel)) rfl
theorem wd_1157 : (Cond.methodLink "FewerManLaw" 67 ⟨"FewerManModel", "mean", "(IIII)J"⟩ : Jvm.Cond) ∈ m_tbl := m_tbl_of (List.mem_of_getElem? (i := 1157) (by decide +kernel)) rfl
theorem wd_1158 : (Cond.instanceMethod ⟨"FewerManModel", "mean", "(IIII)J"⟩ : Jvm.Cond) ∈ m_tbl := m_tbl_of (List.mem_of_getElem? (i := 1158) (by decide +kernel)) rfl
theorem wd_1159 : (Cond.selects "FewerManModel" ⟨"FewerManModel", "mean", "(IIII)J"⟩ ⟨"FewerManModel", "mean", "(IIII)J"⟩ : Jvm.Cond) ∈ m_tbl := m_tbl_of (List.mem_of_getElem? (i := 1159) (by decide +kernel)) rfl
theorem wd_642 : (Cond.methodLink "FewerManLaw" 68 ⟨"FewerMan", "series", "(IIII)J"⟩ : Jvm.Cond) ∈ m_tbl := m_tbl_of (List.mem_of_getElem? (i := 642) (by decide +kernel)) rfl
theorem wd_643 : (Cond.instanceMethod ⟨"FewerMan", "series", "(IIII)J"⟩ : Jvm.Cond) ∈ m_tbl := m_tbl_of (List.mem_of_getElem? (i := 643) (by decide +kernel)) rfl
theorem wd_644 : (Cond.selects "FewerMan" ⟨"FewerMan", "series", "(IIII)J"⟩ ⟨"FewerMan", "series", "(IIII)J"⟩ : Jvm.Cond) ∈ m_tbl := m_tbl_of (List.mem_of_getElem? (i := 644) (by decide +kernel)) rfl
theorem wd_1161 : (Cond.methodLink "FewerManLaw" 71 ⟨"FewerManModel", "series", "(IIII)J"⟩ : Jvm.Cond) ∈ m_tbl := m_tbl_of (List.mem_of_getElem? (i := 1161) (by decide +kernel)) rfl
theorem wd_1162 : (Cond.instanceMethod ⟨"FewerManModel", "series", "(IIII)J"⟩ : Jvm.Cond) ∈ m_tbl := m_tbl_of (List.mem_of_getElem? (i := 1162) (by decide +kernel)) rfl
theorem wd_1163 : (Cond.selects "FewerManModel" ⟨"FewerManModel", "series", "(IIII)J"⟩ ⟨"FewerManModel", "series", "(IIII)J"⟩ : Jvm.Cond) ∈ m_tbl := m_tbl_of (List.mem_of_getElem? (i := 1163) (by decide +kernel)) rfl
theorem wd_646 : (Cond.methodLink "FewerManLaw" 72 ⟨"FewerMan", "ends", "(IIII)J"⟩ : Jvm.Cond) ∈ m_tbl := m_tbl_of (List.mem_of_getElem? (i := 646) (by decide +kernel)) rfl
theorem wd_647 : (Cond.instanceMethod ⟨"FewerMan", "ends", "(IIII)J"⟩ : Jvm.Cond) ∈ m_tbl := m_tbl_of (List.mem_of_getElem? (i := 647) (by decide +kernel)) rfl
theorem wd_648 : (Cond.selects "FewerMan" ⟨"FewerMan", "ends", "(IIII)J"⟩ ⟨"FewerMan", "ends", "(IIII)J"⟩ : Jvm.Cond) ∈ m_tbl := m_tbl_of (List.mem_of_getElem? (i := 648) (by decide +kernel)) rfl
theorem wd_1169 : (Cond.methodLink "FewerManLaw" 75 ⟨"FewerManModel", "ends", "(IIII)J"⟩ : Jvm.Cond) ∈ m_tbl := m_tbl_of (List.mem_of_getElem? (i := 1169) (by decide +kernel)) rfl
theorem wd_1170 : (Cond.instanceMethod ⟨"FewerManModel", "ends", "(IIII)J"⟩ : Jvm.Cond) ∈ m_tbl := m_tbl_of (List.mem_of_getElem? (i := 1170) (by decide +kernel)) rfl
theorem wd_1171 : (Cond.selects "FewerManModel" ⟨"FewerManModel", "ends", "(IIII)J"⟩ ⟨"FewerManModel", "ends", "(IIII)J"⟩ : Jvm.Cond) ∈ m_tbl := m_tbl_of (List.mem_of_getElem? (i := 1171) (by decide +kernel)) rfl
theorem wd_654 : (Cond.methodLink "FewerManLaw" 76 ⟨"FewerMan", "even", "(II)I"⟩ : Jvm.Cond) ∈ m_tbl := m_tbl_of (List.mem_of_getElem? (i := 654) (by decide +kernel)) rfl
theorem wd_655 : (Cond.instanceMethod ⟨"FewerMan", "even", "(II)I"⟩ : Jvm.Cond) ∈ m_tbl := m_tbl_of (List.mem_of_getElem? (i := 655) (by decide +kernel)) rfl
theorem wd_656 : (Cond.selects "FewerMan" ⟨"FewerMan", "even", "(II)I"⟩ ⟨"FewerMan", "even", "(II)I"⟩ : Jvm.Cond) ∈ m_tbl := m_tbl_of (List.mem_of_getElem? (i := 656) (by decide +kernel)) rfl
theorem wd_1177 : (Cond.methodLink "FewerManLaw" 79 ⟨"FewerManModel", "even", "(II)I"⟩ : Jvm.Cond) ∈ m_tbl := m_tbl_of (List.mem_of_getElem? (i := 1177) (by decide +kernel)) rfl
theorem wd_1178 : (Cond.instanceMethod ⟨"FewerManModel", "even", "(II)I"⟩ : Jvm.Cond) ∈ m_tbl := m_tbl_of (List.mem_of_getElem? (i := 1178) (by decide +kernel)) rfl
theorem wd_1179 : (Cond.selects "FewerManModel" ⟨"FewerManModel", "even", "(II)I"⟩ ⟨"FewerManModel", "even", "(II)I"⟩ : Jvm.Cond) ∈ m_tbl := m_tbl_of (List.mem_of_getElem? (i := 1179) (by decide +kernel)) rfl
theorem wd_662 : (Cond.methodLink "FewerManLaw" 80 ⟨"FewerMan", "purpose", "(IIII)J"⟩ : Jvm.Cond) ∈ m_tbl := m_tbl_of (List.mem_of_getElem? (i := 662) (by decide +kernel)) rfl
theorem wd_663 : (Cond.instanceMethod ⟨"FewerMan", "purpose", "(IIII)J"⟩ : Jvm.Cond) ∈ m_tbl := m_tbl_of (List.mem_of_getElem? (i := 663) (by decide +kernel)) rfl
theorem wd_664 : (Cond.selects "FewerMan" ⟨"FewerMan", "purpose", "(IIII)J"⟩ ⟨"FewerMan", "purpose", "(IIII)J"⟩ : Jvm.Cond) ∈ m_tbl := m_tbl_of (List.mem_of_getElem? (i := 664) (by decide +kernel)) rfl
theorem wd_1181 : (Cond.methodLink "FewerManLaw" 83 ⟨"FewerManModel", "purpose", "(IIII)J"⟩ : Jvm.Cond) ∈ m_tbl := m_tbl_of (List.mem_of_getElem? (i := 1181) (by decide +kernel)) rfl
theorem wd_1182 : (Cond.instanceMethod ⟨"FewerManModel", "purpose", "(IIII)J"⟩ : Jvm.Cond) ∈ m_tbl := m_tbl_of (List.mem_of_getElem? (i := 1182) (by decide +kernel)) rfl
theorem wd_1183 : (Cond.selects "FewerManModel" ⟨"FewerManModel", "purpose", "(IIII)J"⟩ ⟨"FewerManModel", "purpose", "(IIII)J"⟩ : Jvm.Cond) ∈ m_tbl := m_tbl_of (List.mem_of_getElem? (i := 1183) (by decide +kernel)) rfl
theorem wd_690 : (Cond.methodLink "FewerManLaw" 84 ⟨"FewerMan", "loses", "(III)I"⟩ : Jvm.Cond) ∈ m_tbl := m_tbl_of (List.mem_of_getElem? (i := 690) (by decide +kernel)) rfl
theorem wd_691 : (Cond.instanceMethod ⟨"FewerMan", "loses", "(III)I"⟩ : Jvm.Cond) ∈ m_tbl := m_tbl_of (List.mem_of_getElem? (i := 691) (by decide +kernel)) rfl
theorem wd_692 : (Cond.selects "FewerMan" ⟨"FewerMan", "loses", "(III)I"⟩ ⟨"FewerMan", "loses", "(III)I"⟩ : Jvm.Cond) ∈ m_tbl := m_tbl_of (List.mem_of_getElem? (i := 692) (by decide +kernel)) rfl
theorem wd_1189 : (Cond.methodLink "FewerManLaw" 87 ⟨"FewerManModel", "loses", "(III)I"⟩ : Jvm.Cond) ∈ m_tbl := m_tbl_of (List.mem_of_getElem? (i := 1189) (by decide +kernel)) rfl
theorem wd_1190 : (Cond.instanceMethod ⟨"FewerManModel", "loses", "(III)I"⟩ : Jvm.Cond) ∈ m_tbl := m_tbl_of (List.mem_of_getElem? (i := 1190) (by decide +kernel)) rfl
theorem wd_1191 : (Cond.selects "FewerManModel" ⟨"FewerManModel", "loses", "(III)I"⟩ ⟨"FewerManModel", "loses", "(III)I"⟩ : Jvm.Cond) ∈ m_tbl := m_tbl_of (List.mem_of_getElem? (i := 1191) (by decide +kernel)) rfl
theorem wd_698 : (Cond.methodLink "FewerManLaw" 88 ⟨"FewerMan", "order", "(III)I"⟩ : Jvm.Cond) ∈ m_tbl := m_tbl_of (List.mem_of_getElem? (i := 698) (by decide +kernel)) rfl
theorem wd_699 : (Cond.instanceMethod ⟨"FewerMan", "order", "(III)I"⟩ : Jvm.Cond) ∈ m_tbl := m_tbl_of (List.mem_of_getElem? (i := 699) (by decide +kernel)) rfl
theorem wd_700 : (Cond.selects "FewerMan" ⟨"FewerMan", "order", "(III)I"⟩ ⟨"FewerMan", "order", "(III)I"⟩ : Jvm.Cond) ∈ m_tbl := m_tbl_of (List.mem_of_getElem? (i := 700) (by decide +kernel)) rfl
theorem wd_1193 : (Cond.methodLink "FewerManLaw" 91 ⟨"FewerManModel", "order", "(III)I"⟩ : Jvm.Cond) ∈ m_tbl := m_tbl_of (List.mem_of_getElem? (i := 1193) (by decide +kernel)) rfl
theorem wd_1194 : (Cond.instanceMethod ⟨"FewerManModel", "order", "(III)I"⟩ : Jvm.Cond) ∈ m_tbl := m_tbl_of (List.mem_of_getElem? (i := 1194) (by decide +kernel)) rfl
theorem wd_1195 : (Cond.selects "FewerManModel" ⟨"FewerManModel", "order", "(III)I"⟩ ⟨"FewerManModel", "order", "(III)I"⟩ : Jvm.Cond) ∈ m_tbl := m_tbl_of (List.mem_of_getElem? (i := 1195) (by decide +kernel)) rfl
theorem wd_731 : (Cond.methodLink "FewerManLaw" 92 ⟨"FewerMan", "orderMean", "(III)J"⟩ : Jvm.Cond) ∈ m_tbl := m_tbl_of (List.mem_of_getElem? (i := 731) (by decide +kernel)) rfl
theorem wd_732 : (Cond.instanceMethod ⟨"FewerMan", "orderMean", "(III)J"⟩ : Jvm.Cond) ∈ m_tbl := m_tbl_of (List.mem_of_getElem? (i := 732) (by decide +kernel)) rfl
theorem wd_733 : (Cond.selects "FewerMan" ⟨"FewerMan", "orderMean", "(III)J"⟩ ⟨"FewerMan", "orderMean", "(III)J"⟩ : Jvm.Cond) ∈ m_tbl := m_tbl_of (List.mem_of_getElem? (i := 733) (by decide +kernel)) rfl
theorem wd_1214 : (Cond.methodLink "FewerManLaw" 96 ⟨"FewerManModel", "orderMean", "(III)J"⟩ : Jvm.Cond) ∈ m_tbl := m_tbl_of (List.mem_of_getElem? (i := 1214) (by decide +kernel)) rfl
theorem wd_1215 : (Cond.instanceMethod ⟨"FewerManModel", "orderMean", "(III)J"⟩ : Jvm.Cond) ∈ m_tbl := m_tbl_of (List.mem_of_getElem? (i := 1215) (by decide +kernel)) rfl
theorem wd_1216 : (Cond.selects "FewerManModel" ⟨"FewerManModel", "orderMean", "(III)J"⟩ ⟨"FewerManModel", "orderMean", "(III)J"⟩ : Jvm.Cond) ∈ m_tbl := m_tbl_of (List.mem_of_getElem? (i := 1216) (by decide +kernel)) rfl
theorem wd_735 : (Cond.methodLink "FewerManLaw" 97 ⟨"FewerMan", "stakes", "(IIII)J"⟩ : Jvm.Cond) ∈ m_tbl := m_tbl_of (List.mem_of_getElem? (i := 735) (by decide +kernel)) rfl
theorem wd_736 : (Cond.instanceMethod ⟨"FewerMan", "stakes", "(IIII)J"⟩ : Jvm.Cond) ∈ m_tbl := m_tbl_of (List.mem_of_getElem? (i := 736) (by decide +kernel)) rfl
theorem wd_737 : (Cond.selects "FewerMan" ⟨"FewerMan", "stakes", "(IIII)J"⟩ ⟨"FewerMan", "stakes", "(IIII)J"⟩ : Jvm.Cond) ∈ m_tbl := m_tbl_of (List.mem_of_getElem? (i := 737) (by decide +kernel)) rfl
theorem wd_1173 : (Cond.methodLink "FewerManLaw" 100 ⟨"FewerManModel", "stakes", "(IIII)J"⟩ : Jvm.Cond) ∈ m_tbl := m_tbl_of (List.mem_of_getElem? (i := 1173) (by decide +kernel)) rfl
theorem wd_1174 : (Cond.instanceMethod ⟨"FewerManModel", "stakes", "(IIII)J"⟩ : Jvm.Cond) ∈ m_tbl := m_tbl_of (List.mem_of_getElem? (i := 1174) (by decide +kernel)) rfl
theorem wd_1175 : (Cond.selects "FewerManModel" ⟨"FewerManModel", "stakes", "(IIII)J"⟩ ⟨"FewerManModel", "stakes", "(IIII)J"⟩ : Jvm.Cond) ∈ m_tbl := m_tbl_of (List.mem_of_getElem? (i := 1175) (by decide +kernel)) rfl
theorem wd_743 : (Cond.methodLink "FewerManLaw" 101 ⟨"FewerMan", "table", "(III)J"⟩ : Jvm.Cond) ∈ m_tbl := m_tbl_of (List.mem_of_getElem? (i := 743) (by decide +kernel)) rfl
theorem wd_744 : (Cond.instanceMethod ⟨"FewerMan", "table", "(III)J"⟩ : Jvm.Cond) ∈ m_tbl := m_tbl_of (List.mem_of_getElem? (i := 744) (by decide +kernel)) rfl
theorem wd_745 : (Cond.selects "FewerMan" ⟨"FewerMan", "table", "(III)J"⟩ ⟨"FewerMan", "table", "(III)J"⟩ : Jvm.Cond) ∈ m_tbl := m_tbl_of (List.mem_of_getElem? (i := 745) (by decide +kernel)) rfl
theorem wd_1218 : (Cond.methodLink "FewerManLaw" 104 ⟨"FewerManModel", "table", "(III)J"⟩ : Jvm.Cond) ∈ m_tbl := m_tbl_of (List.mem_of_getElem? (i := 1218) (by decide +kernel)) rfl
theorem wd_1219 : (Cond.instanceMethod ⟨"FewerManModel", "table", "(III)J"⟩ : Jvm.Cond) ∈ m_tbl := m_tbl_of (List.mem_of_getElem? (i := 1219) (by decide +kernel)) rfl
theorem wd_1220 : (Cond.selects "FewerManModel" ⟨"FewerManModel", "table", "(III)J"⟩ ⟨"FewerManModel", "table", "(III)J"⟩ : Jvm.Cond) ∈ m_tbl := m_tbl_of (List.mem_of_getElem? (i := 1220) (by decide +kernel)) rfl
theorem wd_769 : (Cond.methodLink "FewerManLaw" 105 ⟨"FewerMan", "book", "(IIZ)I"⟩ : Jvm.Cond) ∈ m_tbl := m_tbl_of (List.mem_of_getElem? (i := 769) (by decide +kernel)) rfl
theorem wd_770 : (Cond.instanceMethod ⟨"FewerMan", "book", "(IIZ)I"⟩ : Jvm.Cond) ∈ m_tbl := m_tbl_of (List.mem_of_getElem? (i := 770) (by decide +kernel)) rfl
theorem wd_771 : (Cond.selects "FewerMan" ⟨"FewerMan", "book", "(IIZ)I"⟩ ⟨"FewerMan", "book", "(IIZ)I"⟩ : Jvm.Cond) ∈ m_tbl := m_tbl_of (List.mem_of_getElem? (i := 771) (by decide +kernel)) rfl
theorem wd_1230 : (Cond.methodLink "FewerManLaw" 108 ⟨"FewerManModel", "book", "(IIZ)I"⟩ : Jvm.Cond) ∈ m_tbl := m_tbl_of (List.mem_of_getElem? (i := 1230) (by decide +kernel)) rfl
theorem wd_1231 : (Cond.instanceMethod ⟨"FewerManModel", "book", "(IIZ)I"⟩ : Jvm.Cond) ∈ m_tbl := m_tbl_of (List.mem_of_getElem? (i := 1231) (by decide +kernel)) rfl
theorem wd_1232 : (Cond.selects "FewerManModel" ⟨"FewerManModel", "book", "(IIZ)I"⟩ ⟨"FewerManModel", "book", "(IIZ)I"⟩ : Jvm.Cond) ∈ m_tbl := m_tbl_of (List.mem_of_getElem? (i := 1232) (by decide +kernel)) rfl
theorem wd_773 : (Cond.methodLink "FewerManLaw" 109 ⟨"FewerMan", "likely", "(I)I"⟩ : Jvm.Cond) ∈ m_tbl := m_tbl_of (List.mem_of_getElem? (i := 773) (by decide +kernel)) rfl
theorem wd_774 : (Cond.instanceMethod ⟨"FewerMan", "likely", "(I)I"⟩ : Jvm.Cond) ∈ m_tbl := m_tbl_of (List.mem_of_getElem? (i := 774) (by decide +kernel)) rfl
theorem wd_775 : (Cond.selects "FewerMan" ⟨"FewerMan", "likely", "(I)I"⟩ ⟨"FewerMan", "likely", "(I)I"⟩ : Jvm.Cond) ∈ m_tbl := m_tbl_of (List.mem_of_getElem? (i := 775) (by decide +kernel)) rfl
theorem wd_1234 : (Cond.methodLink "FewerManLaw" 112 ⟨"FewerManModel", "likely", "(I)I"⟩ : Jvm.Cond) ∈ m_tbl := m_tbl_of (List.mem_of_getElem? (i := 1234) (by decide +kernel)) rfl
theorem wd_1235 : (Cond.instanceMethod ⟨"FewerManModel", "likely", "(I)I"⟩ : Jvm.Cond) ∈ m_tbl := m_tbl_of (List.mem_of_getElem? (i := 1235) (by decide +kernel)) rfl
theorem wd_1236 : (Cond.selects "FewerManModel" ⟨"FewerManModel", "likely", "(I)I"⟩ ⟨"FewerManModel", "likely", "(I)I"⟩ : Jvm.Cond) ∈ m_tbl := m_tbl_of (List.mem_of_getElem? (i := 1236) (by decide +kernel)) rfl
theorem wd_787 : (Cond.methodLink "FewerManLaw" 113 ⟨"FewerMan", "says", "(I)I"⟩ : Jvm.Cond) ∈ m_tbl := m_tbl_of (List.mem_of_getElem? (i := 787) (by decide +kernel)) rfl
theorem wd_788 : (Cond.instanceMethod ⟨"FewerMan", "says", "(I)I"⟩ : Jvm.Cond) ∈ m_tbl := m_tbl_of (List.mem_of_getElem? (i := 788) (by decide +kernel)) rfl
theorem wd_789 : (Cond.selects "FewerMan" ⟨"FewerMan", "says", "(I)I"⟩ ⟨"FewerMan", "says", "(I)I"⟩ : Jvm.Cond) ∈ m_tbl := m_tbl_of (List.mem_of_getElem? (i := 789) (by decide +kernel)) rfl
theorem wd_1242 : (Cond.methodLink "FewerManLaw" 116 ⟨"FewerManModel", "says", "(I)I"⟩ : Jvm.Cond) ∈ m_tbl := m_tbl_of (List.mem_of_getElem? (i := 1242) (by decide +kernel)) rfl
theorem wd_1243 : (Cond.instanceMethod ⟨"FewerManModel", "says", "(I)I"⟩ : Jvm.Cond) ∈ m_tbl := m_tbl_of (List.mem_of_getElem? (i := 1243) (by decide +kernel)) rfl
theorem wd_1244 : (Cond.selects "FewerManModel" ⟨"FewerManModel", "says", "(I)I"⟩ ⟨"FewerManModel", "says", "(I)I"⟩ : Jvm.Cond) ∈ m_tbl := m_tbl_of (List.mem_of_getElem? (i := 1244) (by decide +kernel)) rfl
theorem wd_791 : (Cond.methodLink "FewerManLaw" 117 ⟨"FewerMan", "tale", "(I)I"⟩ : Jvm.Cond) ∈ m_tbl := m_tbl_of (List.mem_of_getElem? (i := 791) (by decide +kernel)) rfl
theorem wd_792 : (Cond.instanceMethod ⟨"FewerMan", "tale", "(I)I"⟩ : Jvm.Cond) ∈ m_tbl := m_tbl_of (List.mem_of_getElem? (i := 792) (by decide +kernel)) rfl
theorem wd_793 : (Cond.selects "FewerMan" ⟨"FewerMan", "tale", "(I)I"⟩ ⟨"FewerMan", "tale", "(I)I"⟩ : Jvm.Cond) ∈ m_tbl := m_tbl_of (List.mem_of_getElem? (i := 793) (by decide +kernel)) rfl
theorem wd_1246 : (Cond.methodLink "FewerManLaw" 120 ⟨"FewerManModel", "tale", "(I)I"⟩ : Jvm.Cond) ∈ m_tbl := m_tbl_of (List.mem_of_getElem? (i := 1246) (by decide +kernel)) rfl
theorem wd_1247 : (Cond.instanceMethod ⟨"FewerManModel", "tale", "(I)I"⟩ : Jvm.Cond) ∈ m_tbl := m_tbl_of (List.mem_of_getElem? (i := 1247) (by decide +kernel)) rfl
theorem wd_1248 : (Cond.selects "FewerManModel" ⟨"FewerManModel", "tale", "(I)I"⟩ ⟨"FewerManModel", "tale", "(I)I"⟩ : Jvm.Cond) ∈ m_tbl := m_tbl_of (List.mem_of_getElem? (i := 1248) (by decide +kernel)) rfl
theorem wd_795 : (Cond.methodLink "FewerManLaw" 121 ⟨"FewerMan", "looked", "()I"⟩ : Jvm.Cond) ∈ m_tbl := m_tbl_of (List.mem_of_getElem? (i := 795) (by decide +kernel)) rfl
theorem wd_796 : (Cond.instanceMethod ⟨"FewerMan", "looked", "()I"⟩ : Jvm.Cond) ∈ m_tbl := m_tbl_of (List.mem_of_getElem? (i := 796) (by decide +kernel)) rfl
theorem wd_797 : (Cond.selects "FewerMan" ⟨"FewerMan", "looked", "()I"⟩ ⟨"FewerMan", "looked", "()I"⟩ : Jvm.Cond) ∈ m_tbl := m_tbl_of (List.mem_of_getElem? (i := 797) (by decide +kernel)) rfl
theorem wd_1250 : (Cond.methodLink "FewerManLaw" 124 ⟨"FewerManModel", "looked", "()I"⟩ : Jvm.Cond) ∈ m_tbl := m_tbl_of (List.mem_of_getElem? (i := 1250) (by decide +kernel)) rfl
theorem wd_1251 : (Cond.instanceMethod ⟨"FewerManModel", "looked", "()I"⟩ : Jvm.Cond) ∈ m_tbl := m_tbl_of (List.mem_of_getElem? (i := 1251) (by decide +kernel)) rfl
theorem wd_1252 : (Cond.selects "FewerManModel" ⟨"FewerManModel", "looked", "()I"⟩ ⟨"FewerManModel", "looked", "()I"⟩ : Jvm.Cond) ∈ m_tbl := m_tbl_of (List.mem_of_getElem? (i := 1252) (by decide +kernel)) rfl
theorem wd_799 : (Cond.methodLink "FewerManLaw" 125 ⟨"FewerMan", "act", "(III)I"⟩ : Jvm.Cond) ∈ m_tbl := m_tbl_of (List.mem_of_getElem? (i := 799) (by decide +kernel)) rfl
theorem wd_800 : (Cond.instanceMethod ⟨"FewerMan", "act", "(III)I"⟩ : Jvm.Cond) ∈ m_tbl := m_tbl_of (List.mem_of_getElem? (i := 800) (by decide +kernel)) rfl
theorem wd_801 : (Cond.selects "FewerMan" ⟨"FewerMan", "act", "(III)I"⟩ ⟨"FewerMan", "act", "(III)I"⟩ : Jvm.Cond) ∈ m_tbl := m_tbl_of (List.mem_of_getElem? (i := 801) (by decide +kernel)) rfl
theorem wd_1254 : (Cond.methodLink "FewerManLaw" 128 ⟨"FewerManModel", "act", "(III)I"⟩ : Jvm.Cond) ∈ m_tbl := m_tbl_of (List.mem_of_getElem? (i := 1254) (by decide +kernel)) rfl
theorem wd_1255 : (Cond.instanceMethod ⟨"FewerManModel", "act", "(III)I"⟩ : Jvm.Cond) ∈ m_tbl := m_tbl_of (List.mem_of_getElem? (i := 1255) (by decide +kernel)) rfl
theorem wd_1256 : (Cond.selects "FewerManModel" ⟨"FewerManModel", "act", "(III)I"⟩ ⟨"FewerManModel", "act", "(III)I"⟩ : Jvm.Cond) ∈ m_tbl := m_tbl_of (List.mem_of_getElem? (i := 1256) (by decide +kernel)) rfl
theorem wd_832 : (Cond.methodLink "FewerManLaw" 129 ⟨"FewerMan", "trace", "(I)I"⟩ : Jvm.Cond) ∈ m_tbl := m_tbl_of (List.mem_of_getElem? (i := 832) (by decide +kernel)) rfl
theorem wd_833 : (Cond.instanceMethod ⟨"FewerMan", "trace", "(I)I"⟩ : Jvm.Cond) ∈ m_tbl := m_tbl_of (List.mem_of_getElem? (i := 833) (by decide +kernel)) rfl
theorem wd_834 : (Cond.selects "FewerMan" ⟨"FewerMan", "trace", "(I)I"⟩ ⟨"FewerMan", "trace", "(I)I"⟩ : Jvm.Cond) ∈ m_tbl := m_tbl_of (List.mem_of_getElem? (i := 834) (by decide +kernel)) rfl
theorem wd_1289 : (Cond.methodLink "FewerManLaw" 132 ⟨"FewerManModel", "trace", "(I)I"⟩ : Jvm.Cond) ∈ m_tbl := m_tbl_of (List.mem_of_getElem? (i := 1289) (by decide +kernel)) rfl
theorem wd_1290 : (Cond.instanceMethod ⟨"FewerManModel", "trace", "(I)I"⟩ : Jvm.Cond) ∈ m_tbl := m_tbl_of (List.mem_of_getElem? (i := 1290) (by decide +kernel)) rfl
theorem wd_1291 : (Cond.selects "FewerManModel" ⟨"FewerManModel", "trace", "(I)I"⟩ ⟨"FewerManModel", "trace", "(I)I"⟩ : Jvm.Cond) ∈ m_tbl := m_tbl_of (List.mem_of_getElem? (i := 1291) (by decide +kernel)) rfl
theorem wd_841 : (Cond.methodLink "FewerManLaw" 133 ⟨"FewerMan", "as", "(II)I"⟩ : Jvm.Cond) ∈ m_tbl := m_tbl_of (List.mem_of_getElem? (i := 841) (by decide +kernel)) rfl
theorem wd_842 : (Cond.instanceMethod ⟨"FewerMan", "as", "(II)I"⟩ : Jvm.Cond) ∈ m_tbl := m_tbl_of (List.mem_of_getElem? (i := 842) (by decide +kernel)) rfl
theorem wd_843 : (Cond.selects "FewerMan" ⟨"FewerMan", "as", "(II)I"⟩ ⟨"FewerMan", "as", "(II)I"⟩ : Jvm.Cond) ∈ m_tbl := m_tbl_of (List.mem_of_getElem? (i := 843) (by decide +kernel)) rfl
theorem wd_1293 : (Cond.methodLink "FewerManLaw" 136 ⟨"FewerManModel", "as", "(II)I"⟩ : Jvm.Cond) ∈ m_tbl := m_tbl_of (List.mem_of_getElem? (i := 1293) (by decide +kernel)) rfl
theorem wd_1294 : (Cond.instanceMethod ⟨"FewerManModel", "as", "(II)I"⟩ : Jvm.Cond) ∈ m_tbl := m_tbl_of (List.mem_of_getElem? (i := 1294) (by decide +kernel)) rfl
theorem wd_1295 : (Cond.selects "FewerManModel" ⟨"FewerManModel", "as", "(II)I"⟩ ⟨"FewerManModel", "as", "(II)I"⟩ : Jvm.Cond) ∈ m_tbl := m_tbl_of (List.mem_of_getElem? (i := 1295) (by decide +kernel)) rfl
theorem wd_849 : (Cond.methodLink "FewerManLaw" 137 ⟨"FewerMan", "image", "()I"⟩ : Jvm.Cond) ∈ m_tbl := m_tbl_of (List.mem_of_getElem? (i := 849) (by decide +kernel)) rfl
theorem wd_850 : (Cond.instanceMethod ⟨"FewerMan", "image", "()I"⟩ : Jvm.Cond) ∈ m_tbl := m_tbl_of (List.mem_of_getElem? (i := 850) (by decide +kernel)) rfl
theorem wd_851 : (Cond.selects "FewerMan" ⟨"FewerMan", "image", "()I"⟩ ⟨"FewerMan", "image", "()I"⟩ : Jvm.Cond) ∈ m_tbl := m_tbl_of (List.mem_of_getElem? (i := 851) (by decide +kernel)) rfl
theorem wd_1297 : (Cond.methodLink "FewerManLaw" 140 ⟨"FewerManModel", "image", "()I"⟩ : Jvm.Cond) ∈ m_tbl := m_tbl_of (List.mem_of_getElem? (i := 1297) (by decide +kernel)) rfl
theorem wd_1298 : (Cond.instanceMethod ⟨"FewerManModel", "image", "()I"⟩ : Jvm.Cond) ∈ m_tbl := m_tbl_of (List.mem_of_getElem? (i := 1298) (by decide +kernel)) rfl
theorem wd_1299 : (Cond.selects "FewerManModel" ⟨"FewerManModel", "image", "()I"⟩ ⟨"FewerManModel", "image", "()I"⟩ : Jvm.Cond) ∈ m_tbl := m_tbl_of (List.mem_of_getElem? (i := 1299) (by decide +kernel)) rfl
theorem wd_853 : (Cond.methodLink "FewerManLaw" 141 ⟨"FewerMan", "undo", "()I"⟩ : Jvm.Cond) ∈ m_tbl := m_tbl_of (List.mem_of_getElem? (i := 853) (by decide +kernel)) rfl
theorem wd_854 : (Cond.instanceMethod ⟨"FewerMan", "undo", "()I"⟩ : Jvm.Cond) ∈ m_tbl := m_tbl_of (List.mem_of_getElem? (i := 854) (by decide +kernel)) rfl
theorem wd_855 : (Cond.selects "FewerMan" ⟨"FewerMan", "undo", "()I"⟩ ⟨"FewerMan", "undo", "()I"⟩ : Jvm.Cond) ∈ m_tbl := m_tbl_of (List.mem_of_getElem? (i := 855) (by decide +kernel)) rfl
theorem wd_1301 : (Cond.methodLink "FewerManLaw" 144 ⟨"FewerManModel", "undo", "()I"⟩ : Jvm.Cond) ∈ m_tbl := m_tbl_of (List.mem_of_getElem? (i := 1301) (by decide +kernel)) rfl
theorem wd_1302 : (Cond.instanceMethod ⟨"FewerManModel", "undo", "()I"⟩ : Jvm.Cond) ∈ m_tbl := m_tbl_of (List.mem_of_getElem? (i := 1302) (by decide +kernel)) rfl
theorem wd_1303 : (Cond.selects "FewerManModel" ⟨"FewerManModel", "undo", "()I"⟩ ⟨"FewerManModel", "undo", "()I"⟩ : Jvm.Cond) ∈ m_tbl := m_tbl_of (List.mem_of_getElem? (i := 1303) (by decide +kernel)) rfl
theorem wd_857 : (Cond.methodLink "FewerManLaw" 145 ⟨"FewerMan", "count", "(I)I"⟩ : Jvm.Cond) ∈ m_tbl := m_tbl_of (List.mem_of_getElem? (i := 857) (by decide +kernel)) rfl
theorem wd_858 : (Cond.instanceMethod ⟨"FewerMan", "count", "(I)I"⟩ : Jvm.Cond) ∈ m_tbl := m_tbl_of (List.mem_of_getElem? (i := 858) (by decide +kernel)) rfl
theorem wd_859 : (Cond.selects "FewerMan" ⟨"FewerMan", "count", "(I)I"⟩ ⟨"FewerMan", "count", "(I)I"⟩ : Jvm.Cond) ∈ m_tbl := m_tbl_of (List.mem_of_getElem? (i := 859) (by decide +kernel)) rfl
theorem wd_1305 : (Cond.methodLink "FewerManLaw" 148 ⟨"FewerManModel", "count", "(I)I"⟩ : Jvm.Cond) ∈ m_tbl := m_tbl_of (List.mem_of_getElem? (i := 1305) (by decide +kernel)) rfl
theorem wd_1306 : (Cond.instanceMethod ⟨"FewerManModel", "count", "(I)I"⟩ : Jvm.Cond) ∈ m_tbl := m_tbl_of (List.mem_of_getElem? (i := 1306) (by decide +kernel)) rfl
theorem wd_1307 : (Cond.selects "FewerManModel" ⟨"FewerManModel", "count", "(I)I"⟩ ⟨"FewerManModel", "count", "(I)I"⟩ : Jvm.Cond) ∈ m_tbl := m_tbl_of (List.mem_of_getElem? (i := 1307) (by decide +kernel)) rfl
theorem wd_328 : (Cond.code yX0_init cX0_init 1 none : Jvm.Cond) ∈ m_tbl := m_tbl_of (List.mem_of_getElem? (i := 328) (by decide +kernel)) rfl
theorem wd_806 : (Cond.code yX0_forget cX0_forget 1 none : Jvm.Cond) ∈ m_tbl := m_tbl_of (List.mem_of_getElem? (i := 806) (by decide +kernel)) rfl
theorem wd_839 : (Cond.code yX0_kept cX0_kept 1 (some .int) : Jvm.Cond) ∈ m_tbl := m_tbl_of (List.mem_of_getElem? (i := 839) (by decide +kernel)) rfl
theorem wd_810 : (Cond.code yX0_does cX0_does 6 (some .int) : Jvm.Cond) ∈ m_tbl := m_tbl_of (List.mem_of_getElem? (i := 810) (by decide +kernel)) rfl
theorem wd_819 : (Cond.code yX0_begins cX0_begins 2 none : Jvm.Cond) ∈ m_tbl := m_tbl_of (List.mem_of_getElem? (i := 819) (by decide +kernel)) rfl
theorem wd_813 : (Cond.code yX0_moves cX0_moves 3 (some .int) : Jvm.Cond) ∈ m_tbl := m_tbl_of (List.mem_of_getElem? (i := 813) (by decide +kernel)) rfl
theorem wd_824 : (Cond.code yX0_bets cX0_bets 3 (some .int) : Jvm.Cond) ∈ m_tbl := m_tbl_of (List.mem_of_getElem? (i := 824) (by decide +kernel)) rfl
theorem wd_829 : (Cond.code yX0_tells cX0_tells 4 (some .int) : Jvm.Cond) ∈ m_tbl := m_tbl_of (List.mem_of_getElem? (i := 829) (by decide +kernel)) rfl
theorem wd_212 : (Cond.code yX1_init cX1_init 1 none : Jvm.Cond) ∈ m_tbl := m_tbl_of (List.mem_of_getElem? (i := 212) (by decide +kernel)) rfl
theorem wd_589 : (Cond.code yX1_pairOf cX1_pairOf 2 (some .int) : Jvm.Cond) ∈ m_tbl := m_tbl_of (List.mem_of_getElem? (i := 589) (by decide +kernel)) rfl
theorem wd_604 : (Cond.code yX1_menOfOne cX1_menOfOne 1 (some .int) : Jvm.Cond) ∈ m_tbl := m_tbl_of (List.mem_of_getElem? (i := 604) (by decide +kernel)) rfl
theorem wd_607 : (Cond.code yX1_menOfOther cX1_menOfOther 1 (some .int) : Jvm.Cond) ∈ m_tbl := m_tbl_of (List.mem_of_getElem? (i := 607) (by decide +kernel)) rfl
theorem wd_593 : (Cond.code yX1_add cX1_add 5 none : Jvm.Cond) ∈ m_tbl := m_tbl_of (List.mem_of_getElem? (i := 593) (by decide +kernel)) rfl
theorem wd_615 : (Cond.code yX1_part cX1_part 3 (some .long) : Jvm.Cond) ∈ m_tbl := m_tbl_of (List.mem_of_getElem? (i := 615) (by decide +kernel)) rfl
theorem wd_623 : (Cond.code yX1_take cX1_take 5 (some .long) : Jvm.Cond) ∈ m_tbl := m_tbl_of (List.mem_of_getElem? (i := 623) (by decide +kernel)) rfl
theorem wd_586 : (Cond.code yX1_clear cX1_clear 3 none : Jvm.Cond) ∈ m_tbl := m_tbl_of (List.mem_of_getElem? (i := 586) (by decide +kernel)) rfl
theorem wd_206 : (Cond.code yX2_init cX2_init 1 none : Jvm.Cond) ∈ m_tbl := m_tbl_of (List.mem_of_getElem? (i := 206) (by decide +kernel)) rfl
theorem wd_582 : (Cond.code yX2_begins cX2_begins 5 none : Jvm.Cond) ∈ m_tbl := m_tbl_of (List.mem_of_getElem? (i := 582) (by decide +kernel)) rfl
theorem wd_597 : (Cond.code yX2_goesOn cX2_goesOn 2 none : Jvm.Cond) ∈ m_tbl := m_tbl_of (List.mem_of_getElem? (i := 597) (by decide +kernel)) rfl
theorem wd_601 : (Cond.code yX2_spreads cX2_spreads 11 none : Jvm.Cond) ∈ m_tbl := m_tbl_of (List.mem_of_getElem? (i := 601) (by decide +kernel)) rfl
theorem wd_619 : (Cond.code yX2_takesWon cX2_takesWon 5 (some .long) : Jvm.Cond) ∈ m_tbl := m_tbl_of (List.mem_of_getElem? (i := 619) (by decide +kernel)) rfl
theorem wd_653 : (Cond.code yX2_takesEnded cX2_takesEnded 4 (some .long) : Jvm.Cond) ∈ m_tbl := m_tbl_of (List.mem_of_getElem? (i := 653) (by decide +kernel)) rfl
theorem wd_641 : (Cond.code yX2_menOfOne cX2_menOfOne 4 (some .long) : Jvm.Cond) ∈ m_tbl := m_tbl_of (List.mem_of_getElem? (i := 641) (by decide +kernel)) rfl
theorem wd_742 : (Cond.code yX2_stakeOfOne cX2_stakeOfOne 7 (some .long) : Jvm.Cond) ∈ m_tbl := m_tbl_of (List.mem_of_getElem? (i := 742) (by decide +kernel)) rfl
theorem wd_449 : (Cond.code yX3_init cX3_init 2 none : Jvm.Cond) ∈ m_tbl := m_tbl_of (List.mem_of_getElem? (i := 449) (by decide +kernel)) rfl
theorem wd_523 : (Cond.code yX3_lift cX3_lift 5 (some .int) : Jvm.Cond) ∈ m_tbl := m_tbl_of (List.mem_of_getElem? (i := 523) (by decide +kernel)) rfl
theorem wd_444 : (Cond.code yX3_testOf cX3_testOf 3 (some .int) : Jvm.Cond) ∈ m_tbl := m_tbl_of (List.mem_of_getElem? (i := 444) (by decide +kernel)) rfl
theorem wd_526 : (Cond.code yX3_passes cX3_passes 5 (some .int) : Jvm.Cond) ∈ m_tbl := m_tbl_of (List.mem_of_getElem? (i := 526) (by decide +kernel)) rfl
theorem wd_276 : (Cond.code yX4_init cX4_init 1 none : Jvm.Cond) ∈ m_tbl := m_tbl_of (List.mem_of_getElem? (i := 276) (by decide +kernel)) rfl
theorem wd_715 : (Cond.code yX4_looksFor cX4_looksFor 5 none : Jvm.Cond) ∈ m_tbl := m_tbl_of (List.mem_of_getElem? (i := 715) (by decide +kernel)) rfl
theorem wd_721 : (Cond.code yX4_tryRows cX4_tryRows 6 none : Jvm.Cond) ∈ m_tbl := m_tbl_of (List.mem_of_getElem? (i := 721) (by decide +kernel)) rfl
theorem wd_727 : (Cond.code yX4_plays cX4_plays 9 (some .long) : Jvm.Cond) ∈ m_tbl := m_tbl_of (List.mem_of_getElem? (i := 727) (by decide +kernel)) rfl
theorem wd_260 : (Cond.code yX5_init cX5_init 1 none : Jvm.Cond) ∈ m_tbl := m_tbl_of (List.mem_of_getElem? (i := 260) (by decide +kernel)) rfl
theorem wd_669 : (Cond.code yX5_atBest cX5_atBest 5 (some .long) : Jvm.Cond) ∈ m_tbl := m_tbl_of (List.mem_of_getElem? (i := 669) (by decide +kernel)) rfl
theorem wd_697 : (Cond.code yX5_losesFirst cX5_losesFirst 7 (some .boolean) : Jvm.Cond) ∈ m_tbl := m_tbl_of (List.mem_of_getElem? (i := 697) (by decide +kernel)) rfl
theorem wd_673 : (Cond.code yX5_asks cX5_asks 4 none : Jvm.Cond) ∈ m_tbl := m_tbl_of (List.mem_of_getElem? (i := 673) (by decide +kernel)) rfl
theorem wd_676 : (Cond.code yX5_best cX5_best 10 (some .long) : Jvm.Cond) ∈ m_tbl := m_tbl_of (List.mem_of_getElem? (i := 676) (by decide +kernel)) rfl
theorem wd_680 : (Cond.code yX5_ifWon cX5_ifWon 5 (some .long) : Jvm.Cond) ∈ m_tbl := m_tbl_of (List.mem_of_getElem? (i := 680) (by decide +kernel)) rfl
theorem wd_685 : (Cond.code yX5_ifLost cX5_ifLost 5 (some .long) : Jvm.Cond) ∈ m_tbl := m_tbl_of (List.mem_of_getElem? (i := 685) (by decide +kernel)) rfl
theorem wd_173 : (Cond.code yX6_init cX6_init 1 none : Jvm.Cond) ∈ m_tbl := m_tbl_of (List.mem_of_getElem? (i := 173) (by decide +kernel)) rfl
theorem wd_390 : (Cond.code yX6_reads cX6_reads 4 (some .boolean) : Jvm.Cond) ∈ m_tbl := m_tbl_of (List.mem_of_getElem? (i := 390) (by decide +kernel)) rfl
theorem wd_409 : (Cond.code yX6_peek cX6_peek 1 (some .int) : Jvm.Cond) ∈ m_tbl := m_tbl_of (List.mem_of_getElem? (i := 409) (by decide +kernel)) rfl
theorem wd_405 : (Cond.code yX6_sign cX6_sign 2 (some .boolean) : Jvm.Cond) ∈ m_tbl := m_tbl_of (List.mem_of_getElem? (i := 405) (by decide +kernel)) rfl
theorem wd_413 : (Cond.code yX6_signs cX6_signs 4 (some .boolean) : Jvm.Cond) ∈ m_tbl := m_tbl_of (List.mem_of_getElem? (i := 413) (by decide +kernel)) rfl
theorem wd_397 : (Cond.code yX6_clause cX6_clause 3 (some .boolean) : Jvm.Cond) ∈ m_tbl := m_tbl_of (List.mem_of_getElem? (i := 397) (by decide +kernel)) rfl
theorem wd_401 : (Cond.code yX6_word cX6_word 1 (some .int) : Jvm.Cond) ∈ m_tbl := m_tbl_of (List.mem_of_getElem? (i := 401) (by decide +kernel)) rfl
theorem wd_417 : (Cond.code yX6_number cX6_number 3 (some .int) : Jvm.Cond) ∈ m_tbl := m_tbl_of (List.mem_of_getElem? (i := 417) (by decide +kernel)) rfl
theorem wd_420 : (Cond.code yX6_digit cX6_digit 1 (some .int) : Jvm.Cond) ∈ m_tbl := m_tbl_of (List.mem_of_getElem? (i := 420) (by decide +kernel)) rfl
theorem wd_424 : (Cond.code yX6_either cX6_either 4 (some .boolean) : Jvm.Cond) ∈ m_tbl := m_tbl_of (List.mem_of_getElem? (i := 424) (by decide +kernel)) rfl
theorem wd_428 : (Cond.code yX6_both cX6_both 4 (some .boolean) : Jvm.Cond) ∈ m_tbl := m_tbl_of (List.mem_of_getElem? (i := 428) (by decide +kernel)) rfl
theorem wd_431 : (Cond.code yX6_one cX6_one 7 (some .boolean) : Jvm.Cond) ∈ m_tbl := m_tbl_of (List.mem_of_getElem? (i := 431) (by decide +kernel)) rfl
theorem wd_438 : (Cond.code yX6_aboutOf cX6_aboutOf 1 (some .int) : Jvm.Cond) ∈ m_tbl := m_tbl_of (List.mem_of_getElem? (i := 438) (by decide +kernel)) rfl
theorem wd_441 : (Cond.code yX6_comparisonOf cX6_comparisonOf 1 (some .int) : Jvm.Cond) ∈ m_tbl := m_tbl_of (List.mem_of_getElem? (i := 441) (by decide +kernel)) rfl
theorem wd_435 : (Cond.code yX6_put cX6_put 2 none : Jvm.Cond) ∈ m_tbl := m_tbl_of (List.mem_of_getElem? (i := 435) (by decide +kernel)) rfl
theorem wd_92 : (Cond.code yX7_init cX7_init 1 none : Jvm.Cond) ∈ m_tbl := m_tbl_of (List.mem_of_getElem? (i := 92) (by decide +kernel)) rfl
theorem wd_750 : (Cond.code yX7_becomes cX7_becomes 2 none : Jvm.Cond) ∈ m_tbl := m_tbl_of (List.mem_of_getElem? (i := 750) (by decide +kernel)) rfl
theorem wd_476 : (Cond.code yX7_comes cX7_comes 4 none : Jvm.Cond) ∈ m_tbl := m_tbl_of (List.mem_of_getElem? (i := 476) (by decide +kernel)) rfl
theorem wd_503 : (Cond.code yX7_less cX7_less 1 (some .int) : Jvm.Cond) ∈ m_tbl := m_tbl_of (List.mem_of_getElem? (i := 503) (by decide +kernel)) rfl
theorem wd_507 : (Cond.code yX7_more cX7_more 1 (some .int) : Jvm.Cond) ∈ m_tbl := m_tbl_of (List.mem_of_getElem? (i := 507) (by decide +kernel)) rfl
theorem wd_564 : (Cond.code yX7_menIfWon cX7_menIfWon 2 (some .int) : Jvm.Cond) ∈ m_tbl := m_tbl_of (List.mem_of_getElem? (i := 564) (by decide +kernel)) rfl
theorem wd_569 : (Cond.code yX7_menIfLost cX7_menIfLost 2 (some .int) : Jvm.Cond) ∈ m_tbl := m_tbl_of (List.mem_of_getElem? (i := 569) (by decide +kernel)) rfl
theorem wd_519 : (Cond.code yX7_pushOf cX7_pushOf 6 (some .int) : Jvm.Cond) ∈ m_tbl := m_tbl_of (List.mem_of_getElem? (i := 519) (by decide +kernel)) rfl
theorem wd_529 : (Cond.code yX7_masterly cX7_masterly 2 (some .int) : Jvm.Cond) ∈ m_tbl := m_tbl_of (List.mem_of_getElem? (i := 529) (by decide +kernel)) rfl
theorem wd_532 : (Cond.code yX7_slyly cX7_slyly 1 (some .int) : Jvm.Cond) ∈ m_tbl := m_tbl_of (List.mem_of_getElem? (i := 532) (by decide +kernel)) rfl
theorem wd_535 : (Cond.code yX7_newly cX7_newly 1 (some .int) : Jvm.Cond) ∈ m_tbl := m_tbl_of (List.mem_of_getElem? (i := 535) (by decide +kernel)) rfl
theorem wd_547 : (Cond.code yX7_oddsOf cX7_oddsOf 7 (some .int) : Jvm.Cond) ∈ m_tbl := m_tbl_of (List.mem_of_getElem? (i := 547) (by decide +kernel)) rfl
theorem wd_543 : (Cond.code yX7_oddsNow cX7_oddsNow 3 (some .int) : Jvm.Cond) ∈ m_tbl := m_tbl_of (List.mem_of_getElem? (i := 543) (by decide +kernel)) rfl
theorem wd_560 : (Cond.code yX7_game cX7_game 4 none : Jvm.Cond) ∈ m_tbl := m_tbl_of (List.mem_of_getElem? (i := 560) (by decide +kernel)) rfl
theorem wd_780 : (Cond.code yX7_chanceOfBook cX7_chanceOfBook 2 (some .int) : Jvm.Cond) ∈ m_tbl := m_tbl_of (List.mem_of_getElem? (i := 780) (by decide +kernel)) rfl
theorem wd_785 : (Cond.code yX7_gameOfBook cX7_gameOfBook 2 none : Jvm.Cond) ∈ m_tbl := m_tbl_of (List.mem_of_getElem? (i := 785) (by decide +kernel)) rfl
theorem wd_309 : (Cond.code yX8_init cX8_init 1 none : Jvm.Cond) ∈ m_tbl := m_tbl_of (List.mem_of_getElem? (i := 309) (by decide +kernel)) rfl
theorem wd_755 : (Cond.code yX8_wonBy cX8_wonBy 5 (some .long) : Jvm.Cond) ∈ m_tbl := m_tbl_of (List.mem_of_getElem? (i := 755) (by decide +kernel)) rfl
theorem wd_758 : (Cond.code yX8_wonFrom cX8_wonFrom 11 (some .long) : Jvm.Cond) ∈ m_tbl := m_tbl_of (List.mem_of_getElem? (i := 758) (by decide +kernel)) rfl
theorem wd_764 : (Cond.code yX8_comesFor cX8_comesFor 3 (some .int) : Jvm.Cond) ∈ m_tbl := m_tbl_of (List.mem_of_getElem? (i := 764) (by decide +kernel)) rfl
theorem wd_768 : (Cond.code yX8_goesBack cX8_goesBack 5 none : Jvm.Cond) ∈ m_tbl := m_tbl_of (List.mem_of_getElem? (i := 768) (by decide +kernel)) rfl
theorem wd_84 : (Cond.code yX9_init cX9_init 1 none : Jvm.Cond) ∈ m_tbl := m_tbl_of (List.mem_of_getElem? (i := 84) (by decide +kernel)) rfl
theorem wd_382 : (Cond.code yX9_feed cX9_feed 2 (some .int) : Jvm.Cond) ∈ m_tbl := m_tbl_of (List.mem_of_getElem? (i := 382) (by decide +kernel)) rfl
theorem wd_386 : (Cond.code yX9_inn cX9_inn 2 (some .int) : Jvm.Cond) ∈ m_tbl := m_tbl_of (List.mem_of_getElem? (i := 386) (by decide +kernel)) rfl
theorem wd_469 : (Cond.code yX9_player cX9_player 3 (some .int) : Jvm.Cond) ∈ m_tbl := m_tbl_of (List.mem_of_getElem? (i := 469) (by decide +kernel)) rfl
theorem wd_480 : (Cond.code yX9_of cX9_of 3 (some .int) : Jvm.Cond) ∈ m_tbl := m_tbl_of (List.mem_of_getElem? (i := 480) (by decide +kernel)) rfl
theorem wd_488 : (Cond.code yX9_men cX9_men 4 (some .int) : Jvm.Cond) ∈ m_tbl := m_tbl_of (List.mem_of_getElem? (i := 488) (by decide +kernel)) rfl
theorem wd_495 : (Cond.code yX9_row cX9_row 5 (some .int) : Jvm.Cond) ∈ m_tbl := m_tbl_of (List.mem_of_getElem? (i := 495) (by decide +kernel)) rfl
theorem wd_499 : (Cond.code yX9_told cX9_told 2 (some .int) : Jvm.Cond) ∈ m_tbl := m_tbl_of (List.mem_of_getElem? (i := 499) (by decide +kernel)) rfl
theorem wd_511 : (Cond.code yX9_push cX9_push 4 (some .int) : Jvm.Cond) ∈ m_tbl := m_tbl_of (List.mem_of_getElem? (i := 511) (by decide +kernel)) rfl
theorem wd_539 : (Cond.code yX9_odds cX9_odds 4 (some .int) : Jvm.Cond) ∈ m_tbl := m_tbl_of (List.mem_of_getElem? (i := 539) (by decide +kernel)) rfl
theorem wd_556 : (Cond.code yX9_play cX9_play 5 (some .int) : Jvm.Cond) ∈ m_tbl := m_tbl_of (List.mem_of_getElem? (i := 556) (by decide +kernel)) rfl
theorem wd_574 : (Cond.code yX9_wins cX9_wins 7 (some .long) : Jvm.Cond) ∈ m_tbl := m_tbl_of (List.mem_of_getElem? (i := 574) (by decide +kernel)) rfl
theorem wd_637 : (Cond.code yX9_mean cX9_mean 6 (some .long) : Jvm.Cond) ∈ m_tbl := m_tbl_of (List.mem_of_getElem? (i := 637) (by decide +kernel)) rfl
theorem wd_645 : (Cond.code yX9_series cX9_series 9 (some .long) : Jvm.Cond) ∈ m_tbl := m_tbl_of (List.mem_of_getElem? (i := 645) (by decide +kernel)) rfl
theorem wd_649 : (Cond.code yX9_ends cX9_ends 8 (some .long) : Jvm.Cond) ∈ m_tbl := m_tbl_of (List.mem_of_getElem? (i := 649) (by decide +kernel)) rfl
theorem wd_657 : (Cond.code yX9_even cX9_even 8 (some .int) : Jvm.Cond) ∈ m_tbl := m_tbl_of (List.mem_of_getElem? (i := 657) (by decide +kernel)) rfl
theorem wd_665 : (Cond.code yX9_purpose cX9_purpose 5 (some .long) : Jvm.Cond) ∈ m_tbl := m_tbl_of (List.mem_of_getElem? (i := 665) (by decide +kernel)) rfl
theorem wd_693 : (Cond.code yX9_loses cX9_loses 5 (some .int) : Jvm.Cond) ∈ m_tbl := m_tbl_of (List.mem_of_getElem? (i := 693) (by decide +kernel)) rfl
theorem wd_701 : (Cond.code yX9_order cX9_order 4 (some .int) : Jvm.Cond) ∈ m_tbl := m_tbl_of (List.mem_of_getElem? (i := 701) (by decide +kernel)) rfl
theorem wd_734 : (Cond.code yX9_orderMean cX9_orderMean 4 (some .long) : Jvm.Cond) ∈ m_tbl := m_tbl_of (List.mem_of_getElem? (i := 734) (by decide +kernel)) rfl
theorem wd_738 : (Cond.code yX9_stakes cX9_stakes 8 (some .long) : Jvm.Cond) ∈ m_tbl := m_tbl_of (List.mem_of_getElem? (i := 738) (by decide +kernel)) rfl
theorem wd_746 : (Cond.code yX9_table cX9_table 4 (some .long) : Jvm.Cond) ∈ m_tbl := m_tbl_of (List.mem_of_getElem? (i := 746) (by decide +kernel)) rfl
theorem wd_772 : (Cond.code yX9_book cX9_book 5 (some .int) : Jvm.Cond) ∈ m_tbl := m_tbl_of (List.mem_of_getElem? (i := 772) (by decide +kernel)) rfl
theorem wd_776 : (Cond.code yX9_likely cX9_likely 9 (some .int) : Jvm.Cond) ∈ m_tbl := m_tbl_of (List.mem_of_getElem? (i := 776) (by decide +kernel)) rfl
theorem wd_790 : (Cond.code yX9_says cX9_says 3 (some .int) : Jvm.Cond) ∈ m_tbl := m_tbl_of (List.mem_of_getElem? (i := 790) (by decide +kernel)) rfl
theorem wd_794 : (Cond.code yX9_tale cX9_tale 2 (some .int) : Jvm.Cond) ∈ m_tbl := m_tbl_of (List.mem_of_getElem? (i := 794) (by decide +kernel)) rfl
theorem wd_798 : (Cond.code yX9_looked cX9_looked 2 (some .int) : Jvm.Cond) ∈ m_tbl := m_tbl_of (List.mem_of_getElem? (i := 798) (by decide +kernel)) rfl
theorem wd_802 : (Cond.code yX9_act cX9_act 4 (some .int) : Jvm.Cond) ∈ m_tbl := m_tbl_of (List.mem_of_getElem? (i := 802) (by decide +kernel)) rfl
theorem wd_835 : (Cond.code yX9_trace cX9_trace 2 (some .int) : Jvm.Cond) ∈ m_tbl := m_tbl_of (List.mem_of_getElem? (i := 835) (by decide +kernel)) rfl
theorem wd_844 : (Cond.code yX9_as cX9_as 3 (some .int) : Jvm.Cond) ∈ m_tbl := m_tbl_of (List.mem_of_getElem? (i := 844) (by decide +kernel)) rfl
theorem wd_852 : (Cond.code yX9_image cX9_image 1 (some .int) : Jvm.Cond) ∈ m_tbl := m_tbl_of (List.mem_of_getElem? (i := 852) (by decide +kernel)) rfl
theorem wd_856 : (Cond.code yX9_undo cX9_undo 1 (some .int) : Jvm.Cond) ∈ m_tbl := m_tbl_of (List.mem_of_getElem? (i := 856) (by decide +kernel)) rfl
theorem wd_860 : (Cond.code yX9_count cX9_count 2 (some .int) : Jvm.Cond) ∈ m_tbl := m_tbl_of (List.mem_of_getElem? (i := 860) (by decide +kernel)) rfl
theorem wd_484 : (Cond.code yX9_isNobody cX9_isNobody 2 (some .boolean) : Jvm.Cond) ∈ m_tbl := m_tbl_of (List.mem_of_getElem? (i := 484) (by decide +kernel)) rfl
theorem wd_515 : (Cond.code yX9_refusal cX9_refusal 3 (some .int) : Jvm.Cond) ∈ m_tbl := m_tbl_of (List.mem_of_getElem? (i := 515) (by decide +kernel)) rfl
theorem wd_705 : (Cond.code yX9_isNoSet cX9_isNoSet 4 (some .boolean) : Jvm.Cond) ∈ m_tbl := m_tbl_of (List.mem_of_getElem? (i := 705) (by decide +kernel)) rfl
theorem wd_472 : (Cond.code yX9_isNoKind cX9_isNoKind 1 (some .boolean) : Jvm.Cond) ∈ m_tbl := m_tbl_of (List.mem_of_getElem? (i := 472) (by decide +kernel)) rfl
theorem wd_491 : (Cond.code yX9_isNoMen cX9_isNoMen 1 (some .boolean) : Jvm.Cond) ∈ m_tbl := m_tbl_of (List.mem_of_getElem? (i := 491) (by decide +kernel)) rfl
theorem wd_577 : (Cond.code yX9_isNoPart cX9_isNoPart 1 (some .boolean) : Jvm.Cond) ∈ m_tbl := m_tbl_of (List.mem_of_getElem? (i := 577) (by decide +kernel)) rfl
theorem wd_847 : (Cond.code yX9_isKind cX9_isKind 4 (some .boolean) : Jvm.Cond) ∈ m_tbl := m_tbl_of (List.mem_of_getElem? (i := 847) (by decide +kernel)) rfl
theorem wd_626 : (Cond.code yX9_powerOfTen cX9_powerOfTen 4 (some .long) : Jvm.Cond) ∈ m_tbl := m_tbl_of (List.mem_of_getElem? (i := 626) (by decide +kernel)) rfl
theorem wd_630 : (Cond.code yX9_partOf cX9_partOf 12 (some .long) : Jvm.Cond) ∈ m_tbl := m_tbl_of (List.mem_of_getElem? (i := 630) (by decide +kernel)) rfl
theorem wd_865 : (Cond.code yX10_init cX10_init 1 none : Jvm.Cond) ∈ m_tbl := m_tbl_of (List.mem_of_getElem? (i := 865) (by decide +kernel)) rfl
theorem wd_945 : (Cond.code yX10_in cX10_in 3 (some .boolean) : Jvm.Cond) ∈ m_tbl := m_tbl_of (List.mem_of_getElem? (i := 945) (by decide +kernel)) rfl
theorem wd_1068 : (Cond.code yX10_isPlayer cX10_isPlayer 2 (some .boolean) : Jvm.Cond) ∈ m_tbl := m_tbl_of (List.mem_of_getElem? (i := 1068) (by decide +kernel)) rfl
theorem wd_1128 : (Cond.code yX10_areTwo cX10_areTwo 3 (some .boolean) : Jvm.Cond) ∈ m_tbl := m_tbl_of (List.mem_of_getElem? (i := 1128) (by decide +kernel)) rfl
theorem wd_1137 : (Cond.code yX10_keeps cX10_keeps 2 none : Jvm.Cond) ∈ m_tbl := m_tbl_of (List.mem_of_getElem? (i := 1137) (by decide +kernel)) rfl
theorem wd_1150 : (Cond.code yX10_goesBack cX10_goesBack 2 none : Jvm.Cond) ∈ m_tbl := m_tbl_of (List.mem_of_getElem? (i := 1150) (by decide +kernel)) rfl
theorem wd_942 : (Cond.code yX10_feed cX10_feed 2 (some .int) : Jvm.Cond) ∈ m_tbl := m_tbl_of (List.mem_of_getElem? (i := 942) (by decide +kernel)) rfl
theorem wd_957 : (Cond.code yX10_here cX10_here 1 (some .int) : Jvm.Cond) ∈ m_tbl := m_tbl_of (List.mem_of_getElem? (i := 957) (by decide +kernel)) rfl
theorem wd_965 : (Cond.code yX10_must cX10_must 2 none : Jvm.Cond) ∈ m_tbl := m_tbl_of (List.mem_of_getElem? (i := 965) (by decide +kernel)) rfl
theorem wd_974 : (Cond.code yX10_spells cX10_spells 3 none : Jvm.Cond) ∈ m_tbl := m_tbl_of (List.mem_of_getElem? (i := 974) (by decide +kernel)) rfl
theorem wd_1026 : (Cond.code yX10_figures cX10_figures 3 (some .int) : Jvm.Cond) ∈ m_tbl := m_tbl_of (List.mem_of_getElem? (i := 1026) (by decide +kernel)) rfl
theorem wd_1047 : (Cond.code yX10_among cX10_among 3 (some .int) : Jvm.Cond) ∈ m_tbl := m_tbl_of (List.mem_of_getElem? (i := 1047) (by decide +kernel)) rfl
theorem wd_1042 : (Cond.code yX10_emits cX10_emits 2 none : Jvm.Cond) ∈ m_tbl := m_tbl_of (List.mem_of_getElem? (i := 1042) (by decide +kernel)) rfl
theorem wd_1038 : (Cond.code yX10_factor cX10_factor 5 none : Jvm.Cond) ∈ m_tbl := m_tbl_of (List.mem_of_getElem? (i := 1038) (by decide +kernel)) rfl
theorem wd_1034 : (Cond.code yX10_every cX10_every 1 none : Jvm.Cond) ∈ m_tbl := m_tbl_of (List.mem_of_getElem? (i := 1034) (by decide +kernel)) rfl
theorem wd_1030 : (Cond.code yX10_some cX10_some 1 none : Jvm.Cond) ∈ m_tbl := m_tbl_of (List.mem_of_getElem? (i := 1030) (by decide +kernel)) rfl
theorem wd_970 : (Cond.code yX10_much cX10_much 4 none : Jvm.Cond) ∈ m_tbl := m_tbl_of (List.mem_of_getElem? (i := 970) (by decide +kernel)) rfl
theorem wd_1053 : (Cond.code yX10_tellsHere cX10_tellsHere 4 none : Jvm.Cond) ∈ m_tbl := m_tbl_of (List.mem_of_getElem? (i := 1053) (by decide +kernel)) rfl
theorem wd_961 : (Cond.code yX10_clauseOfL cX10_clauseOfL 1 none : Jvm.Cond) ∈ m_tbl := m_tbl_of (List.mem_of_getElem? (i := 961) (by decide +kernel)) rfl
theorem wd_953 : (Cond.code yX10_clauseHere cX10_clauseHere 1 none : Jvm.Cond) ∈ m_tbl := m_tbl_of (List.mem_of_getElem? (i := 953) (by decide +kernel)) rfl
theorem wd_949 : (Cond.code yX10_inn cX10_inn 2 (some .int) : Jvm.Cond) ∈ m_tbl := m_tbl_of (List.mem_of_getElem? (i := 949) (by decide +kernel)) rfl
theorem wd_1084 : (Cond.code yX10_tellsOf cX10_tellsOf 2 (some .int) : Jvm.Cond) ∈ m_tbl := m_tbl_of (List.mem_of_getElem? (i := 1084) (by decide +kernel)) rfl
theorem wd_1060 : (Cond.code yX10_player cX10_player 5 (some .int) : Jvm.Cond) ∈ m_tbl := m_tbl_of (List.mem_of_getElem? (i := 1060) (by decide +kernel)) rfl
theorem wd_1064 : (Cond.code yX10_of cX10_of 3 (some .int) : Jvm.Cond) ∈ m_tbl := m_tbl_of (List.mem_of_getElem? (i := 1064) (by decide +kernel)) rfl
theorem wd_1072 : (Cond.code yX10_men cX10_men 4 (some .int) : Jvm.Cond) ∈ m_tbl := m_tbl_of (List.mem_of_getElem? (i := 1072) (by decide +kernel)) rfl
theorem wd_1076 : (Cond.code yX10_row cX10_row 5 (some .int) : Jvm.Cond) ∈ m_tbl := m_tbl_of (List.mem_of_getElem? (i := 1076) (by decide +kernel)) rfl
theorem wd_1080 : (Cond.code yX10_told cX10_told 2 (some .int) : Jvm.Cond) ∈ m_tbl := m_tbl_of (List.mem_of_getElem? (i := 1080) (by decide +kernel)) rfl
theorem wd_1096 : (Cond.code yX10_lifted cX10_lifted 12 (some .int) : Jvm.Cond) ∈ m_tbl := m_tbl_of (List.mem_of_getElem? (i := 1096) (by decide +kernel)) rfl
theorem wd_1092 : (Cond.code yX10_pushOf cX10_pushOf 8 (some .int) : Jvm.Cond) ∈ m_tbl := m_tbl_of (List.mem_of_getElem? (i := 1092) (by decide +kernel)) rfl
theorem wd_1104 : (Cond.code yX10_oddsOf cX10_oddsOf 4 (some .int) : Jvm.Cond) ∈ m_tbl := m_tbl_of (List.mem_of_getElem? (i := 1104) (by decide +kernel)) rfl
theorem wd_1088 : (Cond.code yX10_push cX10_push 3 (some .int) : Jvm.Cond) ∈ m_tbl := m_tbl_of (List.mem_of_getElem? (i := 1088) (by decide +kernel)) rfl
theorem wd_1100 : (Cond.code yX10_odds cX10_odds 3 (some .int) : Jvm.Cond) ∈ m_tbl := m_tbl_of (List.mem_of_getElem? (i := 1100) (by decide +kernel)) rfl
theorem wd_1116 : (Cond.code yX10_fewer cX10_fewer 3 (some .int) : Jvm.Cond) ∈ m_tbl := m_tbl_of (List.mem_of_getElem? (i := 1116) (by decide +kernel)) rfl
theorem wd_1120 : (Cond.code yX10_moreOf cX10_moreOf 3 (some .int) : Jvm.Cond) ∈ m_tbl := m_tbl_of (List.mem_of_getElem? (i := 1120) (by decide +kernel)) rfl
theorem wd_1112 : (Cond.code yX10_plays cX10_plays 3 none : Jvm.Cond) ∈ m_tbl := m_tbl_of (List.mem_of_getElem? (i := 1112) (by decide +kernel)) rfl
theorem wd_1108 : (Cond.code yX10_play cX10_play 4 (some .int) : Jvm.Cond) ∈ m_tbl := m_tbl_of (List.mem_of_getElem? (i := 1108) (by decide +kernel)) rfl
theorem wd_1153 : (Cond.code yX10_tens cX10_tens 4 (some .long) : Jvm.Cond) ∈ m_tbl := m_tbl_of (List.mem_of_getElem? (i := 1153) (by decide +kernel)) rfl
theorem wd_1141 : (Cond.code yX10_beginsTwo cX10_beginsTwo 4 none : Jvm.Cond) ∈ m_tbl := m_tbl_of (List.mem_of_getElem? (i := 1141) (by decide +kernel)) rfl
theorem wd_1145 : (Cond.code yX10_gameOn cX10_gameOn 7 none : Jvm.Cond) ∈ m_tbl := m_tbl_of (List.mem_of_getElem? (i := 1145) (by decide +kernel)) rfl
theorem wd_1133 : (Cond.code yX10_gamesOn cX10_gamesOn 6 none : Jvm.Cond) ∈ m_tbl := m_tbl_of (List.mem_of_getElem? (i := 1133) (by decide +kernel)) rfl
theorem wd_1156 : (Cond.code yX10_lowest cX10_lowest 11 (some .long) : Jvm.Cond) ∈ m_tbl := m_tbl_of (List.mem_of_getElem? (i := 1156) (by decide +kernel)) rfl
theorem wd_1124 : (Cond.code yX10_wins cX10_wins 9 (some .long) : Jvm.Cond) ∈ m_tbl := m_tbl_of (List.mem_of_getElem? (i := 1124) (by decide +kernel)) rfl
theorem wd_1160 : (Cond.code yX10_mean cX10_mean 8 (some .long) : Jvm.Cond) ∈ m_tbl := m_tbl_of (List.mem_of_getElem? (i := 1160) (by decide +kernel)) rfl
theorem wd_1168 : (Cond.code yX10_firsts cX10_firsts 12 (some .long) : Jvm.Cond) ∈ m_tbl := m_tbl_of (List.mem_of_getElem? (i := 1168) (by decide +kernel)) rfl
theorem wd_1164 : (Cond.code yX10_series cX10_series 5 (some .long) : Jvm.Cond) ∈ m_tbl := m_tbl_of (List.mem_of_getElem? (i := 1164) (by decide +kernel)) rfl
theorem wd_1172 : (Cond.code yX10_ends cX10_ends 8 (some .long) : Jvm.Cond) ∈ m_tbl := m_tbl_of (List.mem_of_getElem? (i := 1172) (by decide +kernel)) rfl
theorem wd_1176 : (Cond.code yX10_stakes cX10_stakes 5 (some .long) : Jvm.Cond) ∈ m_tbl := m_tbl_of (List.mem_of_getElem? (i := 1176) (by decide +kernel)) rfl
theorem wd_1180 : (Cond.code yX10_even cX10_even 8 (some .int) : Jvm.Cond) ∈ m_tbl := m_tbl_of (List.mem_of_getElem? (i := 1180) (by decide +kernel)) rfl
theorem wd_1188 : (Cond.code yX10_bestFor cX10_bestFor 13 (some .long) : Jvm.Cond) ∈ m_tbl := m_tbl_of (List.mem_of_getElem? (i := 1188) (by decide +kernel)) rfl
theorem wd_1184 : (Cond.code yX10_purpose cX10_purpose 5 (some .long) : Jvm.Cond) ∈ m_tbl := m_tbl_of (List.mem_of_getElem? (i := 1184) (by decide +kernel)) rfl
theorem wd_1192 : (Cond.code yX10_loses cX10_loses 4 (some .int) : Jvm.Cond) ∈ m_tbl := m_tbl_of (List.mem_of_getElem? (i := 1192) (by decide +kernel)) rfl
theorem wd_1213 : (Cond.code yX10_wonBy cX10_wonBy 9 (some .long) : Jvm.Cond) ∈ m_tbl := m_tbl_of (List.mem_of_getElem? (i := 1213) (by decide +kernel)) rfl
theorem wd_1209 : (Cond.code yX10_ordersFrom cX10_ordersFrom 7 none : Jvm.Cond) ∈ m_tbl := m_tbl_of (List.mem_of_getElem? (i := 1209) (by decide +kernel)) rfl
theorem wd_1200 : (Cond.code yX10_isSet cX10_isSet 3 (some .boolean) : Jvm.Cond) ∈ m_tbl := m_tbl_of (List.mem_of_getElem? (i := 1200) (by decide +kernel)) rfl
theorem wd_1204 : (Cond.code yX10_looksForOrder cX10_looksForOrder 3 none : Jvm.Cond) ∈ m_tbl := m_tbl_of (List.mem_of_getElem? (i := 1204) (by decide +kernel)) rfl
theorem wd_1196 : (Cond.code yX10_order cX10_order 4 (some .int) : Jvm.Cond) ∈ m_tbl := m_tbl_of (List.mem_of_getElem? (i := 1196) (by decide +kernel)) rfl
theorem wd_1217 : (Cond.code yX10_orderMean cX10_orderMean 6 (some .long) : Jvm.Cond) ∈ m_tbl := m_tbl_of (List.mem_of_getElem? (i := 1217) (by decide +kernel)) rfl
theorem wd_1225 : (Cond.code yX10_tables cX10_tables 12 (some .long) : Jvm.Cond) ∈ m_tbl := m_tbl_of (List.mem_of_getElem? (i := 1225) (by decide +kernel)) rfl
theorem wd_1229 : (Cond.code yX10_nextTable cX10_nextTable 9 (some .long) : Jvm.Cond) ∈ m_tbl := m_tbl_of (List.mem_of_getElem? (i := 1229) (by decide +kernel)) rfl
theorem wd_1221 : (Cond.code yX10_table cX10_table 6 (some .long) : Jvm.Cond) ∈ m_tbl := m_tbl_of (List.mem_of_getElem? (i := 1221) (by decide +kernel)) rfl
theorem wd_1233 : (Cond.code yX10_book cX10_book 4 (some .int) : Jvm.Cond) ∈ m_tbl := m_tbl_of (List.mem_of_getElem? (i := 1233) (by decide +kernel)) rfl
theorem wd_1241 : (Cond.code yX10_booksGame cX10_booksGame 5 none : Jvm.Cond) ∈ m_tbl := m_tbl_of (List.mem_of_getElem? (i := 1241) (by decide +kernel)) rfl
theorem wd_1237 : (Cond.code yX10_likely cX10_likely 11 (some .int) : Jvm.Cond) ∈ m_tbl := m_tbl_of (List.mem_of_getElem? (i := 1237) (by decide +kernel)) rfl
theorem wd_1245 : (Cond.code yX10_says cX10_says 3 (some .int) : Jvm.Cond) ∈ m_tbl := m_tbl_of (List.mem_of_getElem? (i := 1245) (by decide +kernel)) rfl
theorem wd_1249 : (Cond.code yX10_tale cX10_tale 2 (some .int) : Jvm.Cond) ∈ m_tbl := m_tbl_of (List.mem_of_getElem? (i := 1249) (by decide +kernel)) rfl
theorem wd_1253 : (Cond.code yX10_looked cX10_looked 3 (some .int) : Jvm.Cond) ∈ m_tbl := m_tbl_of (List.mem_of_getElem? (i := 1253) (by decide +kernel)) rfl
theorem wd_1268 : (Cond.code yX10_ranBody cX10_ranBody 2 none : Jvm.Cond) ∈ m_tbl := m_tbl_of (List.mem_of_getElem? (i := 1268) (by decide +kernel)) rfl
theorem wd_1264 : (Cond.code yX10_isUnder cX10_isUnder 2 (some .boolean) : Jvm.Cond) ∈ m_tbl := m_tbl_of (List.mem_of_getElem? (i := 1264) (by decide +kernel)) rfl
theorem wd_1272 : (Cond.code yX10_plainMoves cX10_plainMoves 2 (some .int) : Jvm.Cond) ∈ m_tbl := m_tbl_of (List.mem_of_getElem? (i := 1272) (by decide +kernel)) rfl
theorem wd_1261 : (Cond.code yX10_movesActs cX10_movesActs 2 (some .int) : Jvm.Cond) ∈ m_tbl := m_tbl_of (List.mem_of_getElem? (i := 1261) (by decide +kernel)) rfl
theorem wd_1280 : (Cond.code yX10_plainBets cX10_plainBets 2 (some .int) : Jvm.Cond) ∈ m_tbl := m_tbl_of (List.mem_of_getElem? (i := 1280) (by decide +kernel)) rfl
theorem wd_1276 : (Cond.code yX10_betsActs cX10_betsActs 2 (some .int) : Jvm.Cond) ∈ m_tbl := m_tbl_of (List.mem_of_getElem? (i := 1276) (by decide +kernel)) rfl
theorem wd_1288 : (Cond.code yX10_plainTells cX10_plainTells 2 (some .int) : Jvm.Cond) ∈ m_tbl := m_tbl_of (List.mem_of_getElem? (i := 1288) (by decide +kernel)) rfl
theorem wd_1284 : (Cond.code yX10_tellsActs cX10_tellsActs 3 (some .int) : Jvm.Cond) ∈ m_tbl := m_tbl_of (List.mem_of_getElem? (i := 1284) (by decide +kernel)) rfl
theorem wd_1257 : (Cond.code yX10_act cX10_act 4 (some .int) : Jvm.Cond) ∈ m_tbl := m_tbl_of (List.mem_of_getElem? (i := 1257) (by decide +kernel)) rfl
theorem wd_1292 : (Cond.code yX10_trace cX10_trace 2 (some .int) : Jvm.Cond) ∈ m_tbl := m_tbl_of (List.mem_of_getElem? (i := 1292) (by decide +kernel)) rfl
theorem wd_1296 : (Cond.code yX10_as cX10_as 3 (some .int) : Jvm.Cond) ∈ m_tbl := m_tbl_of (List.mem_of_getElem? (i := 1296) (by decide +kernel)) rfl
theorem wd_1300 : (Cond.code yX10_image cX10_image 2 (some .int) : Jvm.Cond) ∈ m_tbl := m_tbl_of (List.mem_of_getElem? (i := 1300) (by decide +kernel)) rfl
theorem wd_1304 : (Cond.code yX10_undo cX10_undo 2 (some .int) : Jvm.Cond) ∈ m_tbl := m_tbl_of (List.mem_of_getElem? (i := 1304) (by decide +kernel)) rfl
theorem wd_1308 : (Cond.code yX10_count cX10_count 2 (some .int) : Jvm.Cond) ∈ m_tbl := m_tbl_of (List.mem_of_getElem? (i := 1308) (by decide +kernel)) rfl
theorem wd_708 : (Cond.code yJ6_bitCount_0f7a4 cJ6_bitCount_0f7a4 1 (some .int) : Jvm.Cond) ∈ m_tbl := m_tbl_of (List.mem_of_getElem? (i := 708) (by decide +kernel)) rfl
theorem wd_978 : (Cond.code yJ0_length_8abf5 cJ0_length_8abf5 1 (some .int) : Jvm.Cond) ∈ m_tbl := m_tbl_of (List.mem_of_getElem? (i := 978) (by decide +kernel)) rfl
theorem wd_988 : (Cond.code yJ0_charAt_5068e cJ0_charAt_5068e 2 (some .char) : Jvm.Cond) ∈ m_tbl := m_tbl_of (List.mem_of_getElem? (i := 988) (by decide +kernel)) rfl
theorem wd_982 : (Cond.code yJ0_coder_7d493 cJ0_coder_7d493 1 (some .byte) : Jvm.Cond) ∈ m_tbl := m_tbl_of (List.mem_of_getElem? (i := 982) (by decide +kernel)) rfl
theorem wd_992 : (Cond.code yJ0_isLatin1_aae02 cJ0_isLatin1_aae02 1 (some .boolean) : Jvm.Cond) ∈ m_tbl := m_tbl_of (List.mem_of_getElem? (i := 992) (by decide +kernel)) rfl
theorem wd_998 : (Cond.code yJ0_checkIndex_df160 cJ0_checkIndex_df160 2 none : Jvm.Cond) ∈ m_tbl := m_tbl_of (List.mem_of_getElem? (i := 998) (by decide +kernel)) rfl
theorem wd_995 : (Cond.code yJ1_charAt_3b067 cJ1_charAt_3b067 2 (some .char) : Jvm.Cond) ∈ m_tbl := m_tbl_of (List.mem_of_getElem? (i := 995) (by decide +kernel)) rfl
theorem wd_1003 : (Cond.code yJ3_checkIndex_8e157 cJ3_checkIndex_8e157 3 (some .int) : Jvm.Cond) ∈ m_tbl := m_tbl_of (List.mem_of_getElem? (i := 1003) (by decide +kernel)) rfl
