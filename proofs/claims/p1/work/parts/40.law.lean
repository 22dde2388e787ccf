/-! the claim out of a run of the interpreter -/
def ai_aSTART : List Int32 := [1779033703, (-1150833019), 1013904242, (-1521486534), 1359893119, (-1694144372), 528734635, 1541459225]
def ai_aROUNDS : List Int32 := [1116352408, 1899447441, (-1245643825), (-373957723), 961987163, 1508970993, (-1841331548), (-1424204075), (-670586216), 310598401, 607225278, 1426881987, 1925078388, (-2132889090), (-1680079193), (-1046744716), (-459576895), (-272742522), 264347078, 604807628, 770255983, 1249150122, 1555081692, 1996064986, (-1740746414), (-1473132947), (-1341970488), (-1084653625), (-958395405), (-710438585), 113926993, 338241895, 666307205, 773529912, 1294757372, 1396182291, 1695183700, 1986661051, (-2117940946), (-1838011259), (-1564481375), (-1474664885), (-1035236496), (-949202525), (-778901479), (-694614492), (-200395387), 275423344, 430227734, 506948616, 659060556, 883997877, 958139571, 1322822218, 1537002063, 1747873779, 1955562222, 2024104815, (-2067236844), (-1933114872), (-1866530822), (-1538233109), (-1090935817), (-965641998)]
def ai_aSECONDS : List Int32 := [1, 60, 3600, 86400, 604800]
/-- the cells that were there before: the script, static arrays -/
def aiPre (L : Nat) (xs : Nat → Int32) : ai_H := [(102, L, fun j => .int (xs j)), (100, 0, fun _ => .int 0), (102, 8, fun j => .int (ai_aSTART.getD j 0)), (102, 64, fun j => .int (ai_aROUNDS.getD j 0)), (102, 5, fun j => .int (ai_aSECONDS.getD j 0)), (111, 0, fun _ => .null)]
/-- what is left to show: on every script the interpreter's run of the law answers 1, within the room -/
def aiRuns : Prop := ∀ (L : Nat) (xs : Nat → Int32), L ≤ 6 → ∃ (n : Nat) (h' : ai_H), ai_run aiP n 0 17 658 0 [(0, .ref 0)] [] (aiPre L xs) = some (.inl (some (.int 1)), h') ∧ h'.length ≤ 600002 + 6 ∧ ai_sz h' ≤ 7302232 + ai_sz (aiPre L xs)
theorem ai_Tar {U : State} {H : Heap} {ty : FieldType} {t n : Nat} {f : Nat → Value} {A : Nat → Prop} {z : Prop} (h : va_T ty t n f A U H) (hz : ¬ z) : ai_ar U H z t ty n f := by
  obtain ⟨cell, h1, h2, h3, h4, h5, h6, -⟩ := h
  exact ⟨cell, h1, h2, h3, h4, h5, h6, fun h => absurd h hz⟩
theorem ai_Xar {U : State} {H : Heap} {b L : Nat} {xs : Nat → Int32} {z : Prop} (h : va_X b L xs U H) (hz : ¬ z) : ai_ar U H z b .int L (fun j => .int (xs j)) := by
  obtain ⟨cell, h1, h2, h3, h4, h5⟩ := h
  exact ⟨cell, h1, h2, h3, by omega, by rw [h4], h5, fun h => absurd h hz⟩
section AIST
variable {b : Nat} {s : State}
theorem ai_st_NO_BYTES (h : (Jvm.Cond.and given_1 narrow_1).before #[Value.ref b] s = true) : ∃ t : Nat, (Term.static "MirrorWorks" "NO_BYTES" "[B").eval #[Value.ref b] s none [] s = some (.ref t) ∧ va_T .byte t 0 (fun _ => .int 0) (fun q => s.heap.size ≤ q) s s.heap := by
  have hs := flat_of_before _ h
  refine va_Tof (by decide) (hs (Cond.arrayOf (Term.static "MirrorWorks" "NO_BYTES" "[B") .byte) (by decide +kernel)) (va_eqt (hs (Cond.eq (Term.length (Term.static "MirrorWorks" "NO_BYTES" "[B")) (Term.int 0)) (by decide +kernel))) (fun j hj => ?_) (fun a ha => by omega)
  omega
theorem ai_st_START (h : (Jvm.Cond.and given_1 narrow_1).before #[Value.ref b] s = true) : ∃ t : Nat, (Term.static "MirrorWorks$Sums" "START" "[I").eval #[Value.ref b] s none [] s = some (.ref t) ∧ va_T .int t 8 (fun j => .int (ai_aSTART.getD j 0)) (fun q => s.heap.size ≤ q) s s.heap := by
  have hs := flat_of_before _ h
  refine va_Tof (by decide) (hs (Cond.arrayOf (Term.static "MirrorWorks$Sums" "START" "[I") .int) (by decide +kernel)) (va_eqt (hs (Cond.eq (Term.length (Term.static "MirrorWorks$Sums" "START" "[I")) (Term.int 8)) (by decide +kernel))) (fun j hj => ?_) (fun a ha => by omega)
  match j, hj with
  | 0, _ => exact va_eqt (hs (Cond.eq (Term.elem (Term.static "MirrorWorks$Sums" "START" "[I") (Term.int 0)) (Term.int 1779033703)) (by decide +kernel))
  | 1, _ => exact va_eqt (hs (Cond.eq (Term.elem (Term.static "MirrorWorks$Sums" "START" "[I") (Term.int 1)) (Term.int (-1150833019))) (by decide +kernel))
  | 2, _ => exact va_eqt (hs (Cond.eq (Term.elem (Term.static "MirrorWorks$Sums" "START" "[I") (Term.int 2)) (Term.int 1013904242)) (by decide +kernel))
  | 3, _ => exact va_eqt (hs (Cond.eq (Term.elem (Term.static "MirrorWorks$Sums" "START" "[I") (Term.int 3)) (Term.int (-1521486534))) (by decide +kernel))
  | 4, _ => exact va_eqt (hs (Cond.eq (Term.elem (Term.static "MirrorWorks$Sums" "START" "[I") (Term.int 4)) (Term.int 1359893119)) (by decide +kernel))
  | 5, _ => exact va_eqt (hs (Cond.eq (Term.elem (Term.static "MirrorWorks$Sums" "START" "[I") (Term.int 5)) (Term.int (-1694144372))) (by decide +kernel))
  | 6, _ => exact va_eqt (hs (Cond.eq (Term.elem (Term.static "MirrorWorks$Sums" "START" "[I") (Term.int 6)) (Term.int 528734635)) (by decide +kernel))
  | 7, _ => exact va_eqt (hs (Cond.eq (Term.elem (Term.static "MirrorWorks$Sums" "START" "[I") (Term.int 7)) (Term.int 1541459225)) (by decide +kernel))
  | (k + 8), h => omega
theorem ai_st_ROUNDS (h : (Jvm.Cond.and given_1 narrow_1).before #[Value.ref b] s = true) : ∃ t : Nat, (Term.static "MirrorWorks$Sums" "ROUNDS" "[I").eval #[Value.ref b] s none [] s = some (.ref t) ∧ va_T .int t 64 (fun j => .int (ai_aROUNDS.getD j 0)) (fun q => s.heap.size ≤ q) s s.heap := by
  have hs := flat_of_before _ h
  refine va_Tof (by decide) (hs (Cond.arrayOf (Term.static "MirrorWorks$Sums" "ROUNDS" "[I") .int) (by decide +kernel)) (va_eqt (hs (Cond.eq (Term.length (Term.static "MirrorWorks$Sums" "ROUNDS" "[I")) (Term.int 64)) (by decide +kernel))) (fun j hj => ?_) (fun a ha => by omega)
  match j, hj with
  | 0, _ => exact va_eqt (hs (Cond.eq (Term.elem (Term.static "MirrorWorks$Sums" "ROUNDS" "[I") (Term.int 0)) (Term.int 1116352408)) (by decide +kernel))
  | 1, _ => exact va_eqt (hs (Cond.eq (Term.elem (Term.static "MirrorWorks$Sums" "ROUNDS" "[I") (Term.int 1)) (Term.int 1899447441)) (by decide +kernel))
  | 2, _ => exact va_eqt (hs (Cond.eq (Term.elem (Term.static "MirrorWorks$Sums" "ROUNDS" "[I") (Term.int 2)) (Term.int (-1245643825))) (by decide +kernel))
  | 3, _ => exact va_eqt (hs (Cond.eq (Term.elem (Term.static "MirrorWorks$Sums" "ROUNDS" "[I") (Term.int 3)) (Term.int (-373957723))) (by decide +kernel))
  | 4, _ => exact va_eqt (hs (Cond.eq (Term.elem (Term.static "MirrorWorks$Sums" "ROUNDS" "[I") (Term.int 4)) (Term.int 961987163)) (by decide +kernel))
  | 5, _ => exact va_eqt (hs (Cond.eq (Term.elem (Term.static "MirrorWorks$Sums" "ROUNDS" "[I") (Term.int 5)) (Term.int 1508970993)) (by decide +kernel))
  | 6, _ => exact va_eqt (hs (Cond.eq (Term.elem (Term.static "MirrorWorks$Sums" "ROUNDS" "[I") (Term.int 6)) (Term.int (-1841331548))) (by decide +kernel))
  | 7, _ => exact va_eqt (hs (Cond.eq (Term.elem (Term.static "MirrorWorks$Sums" "ROUNDS" "[I") (Term.int 7)) (Term.int (-1424204075))) (by decide +kernel))
  | 8, _ => exact va_eqt (hs (Cond.eq (Term.elem (Term.static "MirrorWorks$Sums" "ROUNDS" "[I") (Term.int 8)) (Term.int (-670586216))) (by decide +kernel))
  | 9, _ => exact va_eqt (hs (Cond.eq (Term.elem (Term.static "MirrorWorks$Sums" "ROUNDS" "[I") (Term.int 9)) (Term.int 310598401)) (by decide +kernel))
  | 10, _ => exact va_eqt (hs (Cond.eq (Term.elem (Term.static "MirrorWorks$Sums" "ROUNDS" "[I") (Term.int 10)) (Term.int 607225278)) (by decide +kernel))
  | 11, _ => exact va_eqt (hs (Cond.eq (Term.elem (Term.static "MirrorWorks$Sums" "ROUNDS" "[I") (Term.int 11)) (Term.int 1426881987)) (by decide +kernel))
  | 12, _ => exact va_eqt (hs (Cond.eq (Term.elem (Term.static "MirrorWorks$Sums" "ROUNDS" "[I") (Term.int 12)) (Term.int 1925078388)) (by decide +kernel))
  | 13, _ => exact va_eqt (hs (Cond.eq (Term.elem (Term.static "MirrorWorks$Sums" "ROUNDS" "[I") (Term.int 13)) (Term.int (-2132889090))) (by decide +kernel))
  | 14, _ => exact va_eqt (hs (Cond.eq (Term.elem (Term.static "MirrorWorks$Sums" "ROUNDS" "[I") (Term.int 14)) (Term.int (-1680079193))) (by decide +kernel))
  | 15, _ => exact va_eqt (hs (Cond.eq (Term.elem (Term.static "MirrorWorks$Sums" "ROUNDS" "[I") (Term.int 15)) (Term.int (-1046744716))) (by decide +kernel))
  | 16, _ => exact va_eqt (hs (Cond.eq (Term.elem (Term.static "MirrorWorks$Sums" "ROUNDS" "[I") (Term.int 16)) (Term.int (-459576895))) (by decide +kernel))
  | 17, _ => exact va_eqt (hs (Cond.eq (Term.elem (Term.static "MirrorWorks$Sums" "ROUNDS" "[I") (Term.int 17)) (Term.int (-272742522))) (by decide +kernel))
  | 18, _ => exact va_eqt (hs (Cond.eq (Term.elem (Term.static "MirrorWorks$Sums" "ROUNDS" "[I") (Term.int 18)) (Term.int 264347078)) (by decide +kernel))
  | 19, _ => exact va_eqt (hs (Cond.eq (Term.elem (Term.static "MirrorWorks$Sums" "ROUNDS" "[I") (Term.int 19)) (Term.int 604807628)) (by decide +kernel))
  | 20, _ => exact va_eqt (hs (Cond.eq (Term.elem (Term.static "MirrorWorks$Sums" "ROUNDS" "[I") (Term.int 20)) (Term.int 770255983)) (by decide +kernel))
  | 21, _ => exact va_eqt (hs (Cond.eq (Term.elem (Term.static "MirrorWorks$Sums" "ROUNDS" "[I") (Term.int 21)) (Term.int 1249150122)) (by decide +kernel))
  | 22, _ => exact va_eqt (hs (Cond.eq (Term.elem (Term.static "MirrorWorks$Sums" "ROUNDS" "[I") (Term.int 22)) (Term.int 1555081692)) (by decide +kernel))
  | 23, _ => exact va_eqt (hs (Cond.eq (Term.elem (Term.static "MirrorWorks$Sums" "ROUNDS" "[I") (Term.int 23)) (Term.int 1996064986)) (by decide +kernel))
  | 24, _ => exact va_eqt (hs (Cond.eq (Term.elem (Term.static "MirrorWorks$Sums" "ROUNDS" "[I") (Term.int 24)) (Term.int (-1740746414))) (by decide +kernel))
  | 25, _ => exact va_eqt (hs (Cond.eq (Term.elem (Term.static "MirrorWorks$Sums" "ROUNDS" "[I") (Term.int 25)) (Term.int (-1473132947))) (by decide +kernel))
  | 26, _ => exact va_eqt (hs (Cond.eq (Term.elem (Term.static "MirrorWorks$Sums" "ROUNDS" "[I") (Term.int 26)) (Term.int (-1341970488))) (by decide +kernel))
  | 27, _ => exact va_eqt (hs (Cond.eq (Term.elem (Term.static "MirrorWorks$Sums" "ROUNDS" "[I") (Term.int 27)) (Term.int (-1084653625))) (by decide +kernel))
  | 28, _ => exact va_eqt (hs (Cond.eq (Term.elem (Term.static "MirrorWorks$Sums" "ROUNDS" "[I") (Term.int 28)) (Term.int (-958395405))) (by decide +kernel))
  | 29, _ => exact va_eqt (hs (Cond.eq (Term.elem (Term.static "MirrorWorks$Sums" "ROUNDS" "[I") (Term.int 29)) (Term.int (-710438585))) (by decide +kernel))
  | 30, _ => exact va_eqt (hs (Cond.eq (Term.elem (Term.static "MirrorWorks$Sums" "ROUNDS" "[I") (Term.int 30)) (Term.int 113926993)) (by decide +kernel))
  | 31, _ => exact va_eqt (hs (Cond.eq (Term.elem (Term.static "MirrorWorks$Sums" "ROUNDS" "[I") (Term.int 31)) (Term.int 338241895)) (by decide +kernel))
  | 32, _ => exact va_eqt (hs (Cond.eq (Term.elem (Term.static "MirrorWorks$Sums" "ROUNDS" "[I") (Term.int 32)) (Term.int 666307205)) (by decide +kernel))
  | 33, _ => exact va_eqt (hs (Cond.eq (Term.elem (Term.static "MirrorWorks$Sums" "ROUNDS" "[I") (Term.int 33)) (Term.int 773529912)) (by decide +kernel))
  | 34, _ => exact va_eqt (hs (Cond.eq (Term.elem (Term.static "MirrorWorks$Sums" "ROUNDS" "[I") (Term.int 34)) (Term.int 1294757372)) (by decide +kernel))
  | 35, _ => exact va_eqt (hs (Cond.eq (Term.elem (Term.static "MirrorWorks$Sums" "ROUNDS" "[I") (Term.int 35)) (Term.int 1396182291)) (by decide +kernel))
  | 36, _ => exact va_eqt (hs (Cond.eq (Term.elem (Term.static "MirrorWorks$Sums" "ROUNDS" "[I") (Term.int 36)) (Term.int 1695183700)) (by decide +kernel))
  | 37, _ => exact va_eqt (hs (Cond.eq (Term.elem (Term.static "MirrorWorks$Sums" "ROUNDS" "[I") (Term.int 37)) (Term.int 1986661051)) (by decide +kernel))
  | 38, _ => exact va_eqt (hs (Cond.eq (Term.elem (Term.static "MirrorWorks$Sums" "ROUNDS" "[I") (Term.int 38)) (Term.int (-2117940946))) (by decide +kernel))
  | 39, _ => exact va_eqt (hs (Cond.eq (Term.elem (Term.static "MirrorWorks$Sums" "ROUNDS" "[I") (Term.int 39)) (Term.int (-1838011259))) (by decide +kernel))
  | 40, _ => exact va_eqt (hs (Cond.eq (Term.elem (Term.static "MirrorWorks$Sums" "ROUNDS" "[I") (Term.int 40)) (Term.int (-1564481375))) (by decide +kernel))
  | 41, _ => exact va_eqt (hs (Cond.eq (Term.elem (Term.static "MirrorWorks$Sums" "ROUNDS" "[I") (Term.int 41)) (Term.int (-1474664885))) (by decide +kernel))
  | 42, _ => exact va_eqt (hs (Cond.eq (Term.elem (Term.static "MirrorWorks$Sums" "ROUNDS" "[I") (Term.int 42)) (Term.int (-1035236496))) (by decide +kernel))
  | 43, _ => exact va_eqt (hs (Cond.eq (Term.elem (Term.static "MirrorWorks$Sums" "ROUNDS" "[I") (Term.int 43)) (Term.int (-949202525))) (by decide +kernel))
  | 44, _ => exact va_eqt (hs (Cond.eq (Term.elem (Term.static "MirrorWorks$Sums" "ROUNDS" "[I") (Term.int 44)) (Term.int (-778901479))) (by decide +kernel))
  | 45, _ => exact va_eqt (hs (Cond.eq (Term.elem (Term.static "MirrorWorks$Sums" "ROUNDS" "[I") (Term.int 45)) (Term.int (-694614492))) (by decide +kernel))
  | 46, _ => exact va_eqt (hs (Cond.eq (Term.elem (Term.static "MirrorWorks$Sums" "ROUNDS" "[I") (Term.int 46)) (Term.int (-200395387))) (by decide +kernel))
  | 47, _ => exact va_eqt (hs (Cond.eq (Term.elem (Term.static "MirrorWorks$Sums" "ROUNDS" "[I") (Term.int 47)) (Term.int 275423344)) (by decide +kernel))
  | 48, _ => exact va_eqt (hs (Cond.eq (Term.elem (Term.static "MirrorWorks$Sums" "ROUNDS" "[I") (Term.int 48)) (Term.int 430227734)) (by decide +kernel))
  | 49, _ => exact va_eqt (hs (Cond.eq (Term.elem (Term.static "MirrorWorks$Sums" "ROUNDS" "[I") (Term.int 49)) (Term.int 506948616)) (by decide +kernel))
  | 50, _ => exact va_eqt (hs (Cond.eq (Term.elem (Term.static "MirrorWorks$Sums" "ROUNDS" "[I") (Term.int 50)) (Term.int 659060556)) (by decide +kernel))
  | 51, _ => exact va_eqt (hs (Cond.eq (Term.elem (Term.static "MirrorWorks$Sums" "ROUNDS" "[I") (Term.int 51)) (Term.int 883997877)) (by decide +kernel))
  | 52, _ => exact va_eqt (hs (Cond.eq (Term.elem (Term.static "MirrorWorks$Sums" "ROUNDS" "[I") (Term.int 52)) (Term.int 958139571)) (by decide +kernel))
  | 53, _ => exact va_eqt (hs (Cond.eq (Term.elem (Term.static "MirrorWorks$Sums" "ROUNDS" "[I") (Term.int 53)) (Term.int 1322822218)) (by decide +kernel))
  | 54, _ => exact va_eqt (hs (Cond.eq (Term.elem (Term.static "MirrorWorks$Sums" "ROUNDS" "[I") (Term.int 54)) (Term.int 1537002063)) (by decide +kernel))
  | 55, _ => exact va_eqt (hs (Cond.eq (Term.elem (Term.static "MirrorWorks$Sums" "ROUNDS" "[I") (Term.int 55)) (Term.int 1747873779)) (by decide +kernel))
  | 56, _ => exact va_eqt (hs (Cond.eq (Term.elem (Term.static "MirrorWorks$Sums" "ROUNDS" "[I") (Term.int 56)) (Term.int 1955562222)) (by decide +kernel))
  | 57, _ => exact va_eqt (hs (Cond.eq (Term.elem (Term.static "MirrorWorks$Sums" "ROUNDS" "[I") (Term.int 57)) (Term.int 2024104815)) (by decide +kernel))
  | 58, _ => exact va_eqt (hs (Cond.eq (Term.elem (Term.static "MirrorWorks$Sums" "ROUNDS" "[I") (Term.int 58)) (Term.int (-2067236844))) (by decide +kernel))
  | 59, _ => exact va_eqt (hs (Cond.eq (Term.elem (Term.static "MirrorWorks$Sums" "ROUNDS" "[I") (Term.int 59)) (Term.int (-1933114872))) (by decide +kernel))
  | 60, _ => exact va_eqt (hs (Cond.eq (Term.elem (Term.static "MirrorWorks$Sums" "ROUNDS" "[I") (Term.int 60)) (Term.int (-1866530822))) (by decide +kernel))
  | 61, _ => exact va_eqt (hs (Cond.eq (Term.elem (Term.static "MirrorWorks$Sums" "ROUNDS" "[I") (Term.int 61)) (Term.int (-1538233109))) (by decide +kernel))
  | 62, _ => exact va_eqt (hs (Cond.eq (Term.elem (Term.static "MirrorWorks$Sums" "ROUNDS" "[I") (Term.int 62)) (Term.int (-1090935817))) (by decide +kernel))
  | 63, _ => exact va_eqt (hs (Cond.eq (Term.elem (Term.static "MirrorWorks$Sums" "ROUNDS" "[I") (Term.int 63)) (Term.int (-965641998))) (by decide +kernel))
  | (k + 64), h => omega
theorem ai_st_SECONDS (h : (Jvm.Cond.and given_1 narrow_1).before #[Value.ref b] s = true) : ∃ t : Nat, (Term.static "MirrorWorks$Words" "SECONDS" "[I").eval #[Value.ref b] s none [] s = some (.ref t) ∧ va_T .int t 5 (fun j => .int (ai_aSECONDS.getD j 0)) (fun q => s.heap.size ≤ q) s s.heap := by
  have hs := flat_of_before _ h
  refine va_Tof (by decide) (hs (Cond.arrayOf (Term.static "MirrorWorks$Words" "SECONDS" "[I") .int) (by decide +kernel)) (va_eqt (hs (Cond.eq (Term.length (Term.static "MirrorWorks$Words" "SECONDS" "[I")) (Term.int 5)) (by decide +kernel))) (fun j hj => ?_) (fun a ha => by omega)
  match j, hj with
  | 0, _ => exact va_eqt (hs (Cond.eq (Term.elem (Term.static "MirrorWorks$Words" "SECONDS" "[I") (Term.int 0)) (Term.int 1)) (by decide +kernel))
  | 1, _ => exact va_eqt (hs (Cond.eq (Term.elem (Term.static "MirrorWorks$Words" "SECONDS" "[I") (Term.int 1)) (Term.int 60)) (by decide +kernel))
  | 2, _ => exact va_eqt (hs (Cond.eq (Term.elem (Term.static "MirrorWorks$Words" "SECONDS" "[I") (Term.int 2)) (Term.int 3600)) (by decide +kernel))
  | 3, _ => exact va_eqt (hs (Cond.eq (Term.elem (Term.static "MirrorWorks$Words" "SECONDS" "[I") (Term.int 3)) (Term.int 86400)) (by decide +kernel))
  | 4, _ => exact va_eqt (hs (Cond.eq (Term.elem (Term.static "MirrorWorks$Words" "SECONDS" "[I") (Term.int 4)) (Term.int 604800)) (by decide +kernel))
  | (k + 5), h => omega
theorem ai_st_DEFAULTCAPACITY_EMPTY_ELEMENTDATA (h : (Jvm.Cond.and given_1 narrow_1).before #[Value.ref b] s = true) : ∃ t : Nat, (Term.static "java/util/ArrayList" "DEFAULTCAPACITY_EMPTY_ELEMENTDATA" "[Ljava/lang/Object;").eval #[Value.ref b] s none [] s = some (.ref t) ∧ va_T (.object "java/lang/Object") t 0 (fun _ => .null) (fun q => s.heap.size ≤ q) s s.heap := by
  have hs := flat_of_before _ h
  refine va_Tof (by decide) (hs (Cond.arrayOf (Term.static "java/util/ArrayList" "DEFAULTCAPACITY_EMPTY_ELEMENTDATA" "[Ljava/lang/Object;") (.object "java/lang/Object")) (by decide +kernel)) (va_eqt (hs (Cond.eq (Term.length (Term.static "java/util/ArrayList" "DEFAULTCAPACITY_EMPTY_ELEMENTDATA" "[Ljava/lang/Object;")) (Term.int 0)) (by decide +kernel))) (fun j hj => ?_) (fun a ha => by omega)
  omega
end AIST
theorem ai_ls1 : (Jvm.Cond.laysStatic "MirrorWorks" "NO_BYTES" "[B") ∈ lw_tbl := ck_1 _ (List.mem_of_getElem? (i := 55) rfl)
theorem ai_li1 : (Jvm.Cond.initialized "MirrorWorks") ∈ lw_tbl := ck_1 _ (List.mem_of_getElem? (i := 1) rfl)
theorem ai_ls2 : (Jvm.Cond.laysStatic "MirrorWorks$Sums" "START" "[I") ∈ lw_tbl := ck_2 _ (List.mem_of_getElem? (i := 128) rfl)
theorem ai_li2 : (Jvm.Cond.initialized "MirrorWorks$Sums") ∈ lw_tbl := ck_1 _ (List.mem_of_getElem? (i := 10) rfl)
theorem ai_ls3 : (Jvm.Cond.laysStatic "MirrorWorks$Sums" "ROUNDS" "[I") ∈ lw_tbl := ck_2 _ (List.mem_of_getElem? (i := 143) rfl)
theorem ai_ls4 : (Jvm.Cond.laysStatic "MirrorWorks$Words" "SECONDS" "[I") ∈ lw_tbl := ck_5 _ (List.mem_of_getElem? (i := 38) rfl)
theorem ai_li4 : (Jvm.Cond.initialized "MirrorWorks$Words") ∈ lw_tbl := ck_1 _ (List.mem_of_getElem? (i := 11) rfl)
theorem ai_ls5 : (Jvm.Cond.laysStatic "java/util/ArrayList" "DEFAULTCAPACITY_EMPTY_ELEMENTDATA" "[Ljava/lang/Object;") ∈ lw_tbl := ck_1 _ (List.mem_of_getElem? (i := 126) rfl)
theorem ai_li5 : (Jvm.Cond.initialized "java/util/ArrayList") ∈ lw_tbl := ck_1 _ (List.mem_of_getElem? (i := 7) rfl)
theorem ai_lo1 : (Jvm.Cond.arrayOver (Jvm.ClassFile.FieldType.object "MirrorWorks$Entry")) ∈ lw_tbl := ck_1 _ (List.mem_of_getElem? (i := 48) rfl)
theorem ai_lo2 : (Jvm.Cond.arrayOver (Jvm.ClassFile.FieldType.object "java/lang/Object")) ∈ lw_tbl := ck_4 _ (List.mem_of_getElem? (i := 143) rfl)
theorem ai_lu : (Jvm.Cond.laysStatic "java/lang/Throwable" "UNASSIGNED_STACK" "[Ljava/lang/StackTraceElement;") ∈ lw_tbl := ck_3 _ (List.mem_of_getElem? (i := 41) rfl)
theorem ai_lv : (Jvm.Cond.laysStatic "java/lang/Throwable" "SUPPRESSED_SENTINEL" "Ljava/util/List;") ∈ lw_tbl := ck_3 _ (List.mem_of_getElem? (i := 43) rfl)
theorem ai_lt : (Jvm.Cond.initialized "java/lang/Throwable") ∈ lw_tbl := ck_1 _ (List.mem_of_getElem? (i := 16) rfl)
theorem ai_nwin : ∀ w ∈ aiNw, w ∈ lw_tbl := (List.forall_mem_cons.mpr ⟨ck_1 _ (List.mem_of_getElem? (i := 50) rfl), (List.forall_mem_cons.mpr ⟨ck_1 _ (List.mem_of_getElem? (i := 54) rfl), (List.forall_mem_cons.mpr ⟨ck_1 _ (List.mem_of_getElem? (i := 109) rfl), (List.forall_mem_cons.mpr ⟨ck_1 _ (List.mem_of_getElem? (i := 197) rfl), (List.forall_mem_cons.mpr ⟨ck_1 _ (List.mem_of_getElem? (i := 210) rfl), (List.forall_mem_cons.mpr ⟨ck_1 _ (List.mem_of_getElem? (i := 214) rfl), (List.forall_mem_cons.mpr ⟨ck_1 _ (List.mem_of_getElem? (i := 231) rfl), (List.forall_mem_cons.mpr ⟨ck_2 _ (List.mem_of_getElem? (i := 80) rfl), (List.forall_mem_cons.mpr ⟨ck_2 _ (List.mem_of_getElem? (i := 224) rfl), (List.forall_mem_cons.mpr ⟨ck_3 _ (List.mem_of_getElem? (i := 16) rfl), (List.forall_mem_cons.mpr ⟨ck_3 _ (List.mem_of_getElem? (i := 17) rfl), (List.forall_mem_cons.mpr ⟨ck_3 _ (List.mem_of_getElem? (i := 18) rfl), (List.forall_mem_cons.mpr ⟨ck_3 _ (List.mem_of_getElem? (i := 19) rfl), (List.forall_mem_cons.mpr ⟨ck_3 _ (List.mem_of_getElem? (i := 20) rfl), (List.forall_mem_cons.mpr ⟨ck_3 _ (List.mem_of_getElem? (i := 21) rfl), (List.forall_mem_cons.mpr ⟨ck_3 _ (List.mem_of_getElem? (i := 22) rfl), (List.forall_mem_cons.mpr ⟨ck_3 _ (List.mem_of_getElem? (i := 81) rfl), (List.forall_mem_cons.mpr ⟨ck_3 _ (List.mem_of_getElem? (i := 209) rfl), (List.forall_mem_cons.mpr ⟨ck_3 _ (List.mem_of_getElem? (i := 222) rfl), (List.forall_mem_cons.mpr ⟨ck_4 _ (List.mem_of_getElem? (i := 39) rfl), (List.forall_mem_cons.mpr ⟨ck_4 _ (List.mem_of_getElem? (i := 83) rfl), (List.forall_mem_cons.mpr ⟨ck_9 _ (List.mem_of_getElem? (i := 85) rfl), (List.forall_mem_cons.mpr ⟨ck_9 _ (List.mem_of_getElem? (i := 86) rfl), (List.forall_mem_cons.mpr ⟨ck_9 _ (List.mem_of_getElem? (i := 89) rfl), (List.forall_mem_cons.mpr ⟨ck_9 _ (List.mem_of_getElem? (i := 90) rfl), (List.forall_mem_cons.mpr ⟨ck_9 _ (List.mem_of_getElem? (i := 91) rfl), (List.forall_mem_cons.mpr ⟨ck_9 _ (List.mem_of_getElem? (i := 92) rfl), (List.forall_mem_cons.mpr ⟨ck_9 _ (List.mem_of_getElem? (i := 93) rfl), (List.forall_mem_cons.mpr ⟨ck_9 _ (List.mem_of_getElem? (i := 94) rfl), (List.forall_mem_cons.mpr ⟨ck_9 _ (List.mem_of_getElem? (i := 95) rfl), (List.forall_mem_cons.mpr ⟨ck_9 _ (List.mem_of_getElem? (i := 96) rfl), (List.forall_mem_cons.mpr ⟨ck_9 _ (List.mem_of_getElem? (i := 97) rfl), (List.forall_mem_cons.mpr ⟨ck_9 _ (List.mem_of_getElem? (i := 98) rfl), (List.forall_mem_cons.mpr ⟨ck_9 _ (List.mem_of_getElem? (i := 99) rfl), (List.forall_mem_cons.mpr ⟨ck_9 _ (List.mem_of_getElem? (i := 100) rfl), (List.forall_mem_cons.mpr ⟨ck_9 _ (List.mem_of_getElem? (i := 101) rfl), (List.forall_mem_cons.mpr ⟨ck_9 _ (List.mem_of_getElem? (i := 102) rfl), (fun _ h => nomatch h)⟩)⟩)⟩)⟩)⟩)⟩)⟩)⟩)⟩)⟩)⟩)⟩)⟩)⟩)⟩)⟩)⟩)⟩)⟩)⟩)⟩)⟩)⟩)⟩)⟩)⟩)⟩)⟩)⟩)⟩)⟩)⟩)⟩)⟩)⟩)⟩)⟩)
theorem ai_nwon : ∀ w ∈ aiNw, w.onTables = true := (List.forall_mem_cons.mpr ⟨rfl, (List.forall_mem_cons.mpr ⟨rfl, (List.forall_mem_cons.mpr ⟨rfl, (List.forall_mem_cons.mpr ⟨rfl, (List.forall_mem_cons.mpr ⟨rfl, (List.forall_mem_cons.mpr ⟨rfl, (List.forall_mem_cons.mpr ⟨rfl, (List.forall_mem_cons.mpr ⟨rfl, (List.forall_mem_cons.mpr ⟨rfl, (List.forall_mem_cons.mpr ⟨rfl, (List.forall_mem_cons.mpr ⟨rfl, (List.forall_mem_cons.mpr ⟨rfl, (List.forall_mem_cons.mpr ⟨rfl, (List.forall_mem_cons.mpr ⟨rfl, (List.forall_mem_cons.mpr ⟨rfl, (List.forall_mem_cons.mpr ⟨rfl, (List.forall_mem_cons.mpr ⟨rfl, (List.forall_mem_cons.mpr ⟨rfl, (List.forall_mem_cons.mpr ⟨rfl, (List.forall_mem_cons.mpr ⟨rfl, (List.forall_mem_cons.mpr ⟨rfl, (List.forall_mem_cons.mpr ⟨rfl, (List.forall_mem_cons.mpr ⟨rfl, (List.forall_mem_cons.mpr ⟨rfl, (List.forall_mem_cons.mpr ⟨rfl, (List.forall_mem_cons.mpr ⟨rfl, (List.forall_mem_cons.mpr ⟨rfl, (List.forall_mem_cons.mpr ⟨rfl, (List.forall_mem_cons.mpr ⟨rfl, (List.forall_mem_cons.mpr ⟨rfl, (List.forall_mem_cons.mpr ⟨rfl, (List.forall_mem_cons.mpr ⟨rfl, (List.forall_mem_cons.mpr ⟨rfl, (List.forall_mem_cons.mpr ⟨rfl, (List.forall_mem_cons.mpr ⟨rfl, (List.forall_mem_cons.mpr ⟨rfl, (List.forall_mem_cons.mpr ⟨rfl, (fun _ h => nomatch h)⟩)⟩)⟩)⟩)⟩)⟩)⟩)⟩)⟩)⟩)⟩)⟩)⟩)⟩)⟩)⟩)⟩)⟩)⟩)⟩)⟩)⟩)⟩)⟩)⟩)⟩)⟩)⟩)⟩)⟩)⟩)⟩)⟩)⟩)⟩)⟩)⟩)
theorem ai_insts : ∀ (ci : Nat) (C : String) (T : u_T) (N : Nat), vwCl[ci]? = some (C, T, N) → ∃ nn, Cond.instantiable C nn ∈ lw_tbl := by
  intro ci C T N h
  match ci, h with
  | 0, h => cases h; exact ⟨_, ck_1 _ (List.mem_of_getElem? (i := 114) rfl)⟩
  | 1, h => cases h; exact ⟨_, ck_4 _ (List.mem_of_getElem? (i := 27) rfl)⟩
  | 2, h => cases h; exact ⟨_, ck_1 _ (List.mem_of_getElem? (i := 108) rfl)⟩
  | 3, h => cases h; exact ⟨_, ck_1 _ (List.mem_of_getElem? (i := 49) rfl)⟩
  | 4, h => cases h; exact ⟨_, ck_1 _ (List.mem_of_getElem? (i := 156) rfl)⟩
  | 5, h => cases h; exact ⟨_, ck_1 _ (List.mem_of_getElem? (i := 148) rfl)⟩
  | 6, h => cases h; exact ⟨_, ck_1 _ (List.mem_of_getElem? (i := 196) rfl)⟩
  | 7, h => cases h; exact ⟨_, ck_1 _ (List.mem_of_getElem? (i := 230) rfl)⟩
  | 8, h => cases h; exact ⟨_, ck_1 _ (List.mem_of_getElem? (i := 42) rfl)⟩
  | 9, h => cases h; exact ⟨_, ck_3 _ (List.mem_of_getElem? (i := 217) rfl)⟩
  | 10, h => cases h; exact ⟨_, ck_1 _ (List.mem_of_getElem? (i := 209) rfl)⟩
  | 11, h => cases h; exact ⟨_, ck_1 _ (List.mem_of_getElem? (i := 34) rfl)⟩
  | 12, h => cases h; exact ⟨_, ck_6 _ (List.mem_of_getElem? (i := 121) rfl)⟩
  | (k + 13), h => cases h
/-! THE CLAIM OUT OF ONE WALK OF THE LAW'S BODY. Your part is whole_start (and what it stands on); all else here is the same for every law, but numbers. -/
def R_law : String := "MirrorWorksLaw"
def lw_P (b : Addr) (xs : List Int32) (args : Array Value) (s : State) : Prop := args = #[.ref b] ∧ s.IntsAt b xs ∧ xs.length ≤ 6 ∧ (Jvm.Cond.and given_1 narrow_1).before args s = true
def lw_Q (_ : Array Value) (s : State) (o : Outcome) (t : State) : Prop := o = .returned (some (.int 1)) ∧ Framed s o t [] 600002 7302232
def lw_Z (below : List Frame) (a : Array Value) (s : State) : State → Prop := fun t => ∃ o, t.status = .running ∧ Ended t below o ∧ lw_Q a s o t
/-- the law's own end, with 1 on the stack, nothing written that was there before, its room as the claim has it -/
theorem lw_ret {p : Program} {l : Launch} {e : Env} {s : State} {m : MethodId} {below : List Frame} {meth : Method} {c : Code} {b : Nat} (hx : p.tables.exec = Jvm.exec) (hb : c.code = code) (hr : meth.sig.returnType = ret) (hlocks : meth.locks = false) {pc : Nat} {H : Heap} {ls : Array Slot} (hdg : decode code pc = .ok (.ireturn, 1)) : W p l e room_1 s m #[Value.ref b] below meth c H [] 600002 7302232 (lw_Z below #[Value.ref b] s) (F0 m pc ls [.int 1]) := by
  intro T hT X
  obtain ⟨fs, hret, hrun, hended, hW, hframe⟩ := X.leave (v := some (.int 1)) (hlocks := hlocks) (fun h => by rw [hr] at h; cases h)
  have hmeth' : T.vm.method? m = some meth := X.method'
  refine ⟨T.setFrames fs, ?_, .returned (some (.int 1)), hrun, hended, rfl, ⟨_, rfl⟩, hW, hframe⟩
  jvm_step X.here [X.here.top, hx, hb, hdg, hmeth', hr, ret, narrow_b1]
  (try refine ⟨rfl, ?_⟩); (try refine ⟨rfl, ?_⟩)
  first | (intro acts; rw [hret _ acts rfl rfl rfl]) | rw [hret _ _ rfl rfl rfl]
  exact Steps.refl _
/-- what holds at the law's entry: the machine, the code, the tables' words (any of lw_tbl by 'hts w (by decide +kernel)'), the script of L ints xs at the cell b, what the Statement gives of the start (any of its parts by flat_of_before) -/
def lw_At (p : Program) (s : State) (m : MethodId) (meth : Method) (c : Code) (b L : Nat) (xs : Nat → Int32) : Prop :=
  p.tables.exec = Jvm.exec ∧ c.code = code ∧ meth.sig.returnType = ret ∧ c.maxLocals = 7 ∧ s.vm.findClass R_law = some m.cls ∧ (∀ w ∈ lw_tbl, w.before #[Value.ref b] s = true) ∧ va_X b L xs s s.heap ∧ b < s.heap.size ∧ meth.locks = false ∧ (Jvm.Cond.and given_1 narrow_1).before #[Value.ref b] s = true ∧ c.exceptionTable.toList = []
theorem whole_start {p : Program} {e : Env} {s : State} {m : MethodId} {below : List Frame} {meth : Method} {c : Code} (l : Launch) (hl : l.stackTraces = false) (hC : ai_Catch l) (hrun : aiRuns) {b L : Nat} {xs : Nat → Int32} (hL : L ≤ 6) (C0 : lw_At p s m meth c b L xs) (hnm : meth.name = "law") : W p l e room_1 s m #[Value.ref b] below meth c s.heap [] 0 0 (lw_Z below #[Value.ref b] s) (entryFrame m ([Value.ref b] : List Value).toArray 7) := by
  obtain ⟨hx, hb, hr, hml, hown, hts, hX, hbl, hlocks, hgv, htab⟩ := C0
  obtain ⟨n, h', hrn, hlen, hsz⟩ := hrun L xs hL
  obtain ⟨t1, e1, T1⟩ := ai_st_NO_BYTES hgv
  obtain ⟨t2, e2, T2⟩ := ai_st_START hgv
  obtain ⟨t3, e3, T3⟩ := ai_st_ROUNDS hgv
  obtain ⟨t4, e4, T4⟩ := ai_st_SECONDS hgv
  obtain ⟨t5, e5, T5⟩ := ai_st_DEFAULTCAPACITY_EMPTY_ELEMENTDATA hgv
  have hA0 : ∀ a : Nat, a < s.heap.size → ¬ (fun q => s.heap.size ≤ q) a := fun a ha => by show ¬ s.heap.size ≤ a; omega
  obtain ⟨ad, had⟩ : ∃ ad : Nat → Nat, ad = fun k => [b, t1, t2, t3, t4, t5].getD k 0 := ⟨_, rfl⟩
  have hD : ∀ ci : Nat, ∃ z : ClassId × (Nat → Nat), ∀ q : vw_C, vwCl[ci]? = some q → u_Kn s q.1 q.2.1 q.2.2 z.1 z.2 := by
    intro ci
    cases hq : vwCl[ci]? with
    | none => exact ⟨(0, fun _ => 0), fun q h => by cases h⟩
    | some q =>
      obtain ⟨C, T, N⟩ := q
      obtain ⟨hin, -, -⟩ := ai_cls ci C T N hq
      obtain ⟨nn, hinst⟩ := ai_insts ci C T N hq
      obtain ⟨cC, iS, hk⟩ := u_known (n := nn) hts (fun w hw => (List.mem_filter.mp (hin w hw)).1) (hts _ hinst)
      exact ⟨(cC, iS), fun q h => by cases h; exact hk⟩
  obtain ⟨D, hDe⟩ : ∃ D : va_G, D = (fun ci => (Classical.choose (hD ci)).1, fun ci => (Classical.choose (hD ci)).2) := ⟨_, rfl⟩
  have hK : va_K D vwCl [] s := ⟨fun ci q hq => by rw [hDe]; exact Classical.choose_spec (hD ci) q hq, fun k q hq => by cases hq⟩
  have hs := flat_of_before _ hgv
  have hE : ai_env vwCl D aiSl aiAo aiNw aiNc ad (fun q => s.heap.size ≤ q) s s.heap := by
    refine ⟨hK, ?_, ?_, ?_, ?_, ?_, ?_⟩
    · rw [had]
      exact (List.forall_mem_cons.mpr ⟨va_Zref (hts _ ai_ls1) (hts _ ai_li1) e1 hA0, List.forall_mem_cons.mpr ⟨va_Zref (hts _ ai_ls2) (hts _ ai_li2) e2 hA0, List.forall_mem_cons.mpr ⟨va_Zref (hts _ ai_ls3) (hts _ ai_li2) e3 hA0, List.forall_mem_cons.mpr ⟨va_Zref (hts _ ai_ls4) (hts _ ai_li4) e4 hA0, List.forall_mem_cons.mpr ⟨va_Zref (hts _ ai_ls5) (hts _ ai_li5) e5 hA0, fun _ h => nomatch h⟩⟩⟩⟩⟩)
    · exact (List.forall_mem_cons.mpr ⟨va_AO.of (hts _ ai_lo1), List.forall_mem_cons.mpr ⟨va_AO.of (hts _ ai_lo2), fun _ h => nomatch h⟩⟩)
    · intro w hw
      exact va_Nw.of (ai_nwon w hw) (hts w (ai_nwin w hw))
    · exact vx_Zqof (hts _ ai_lu) (hts _ ai_lt) (hs _ (by decide +kernel)) hA0
    · exact vx_Zqof (hts _ ai_lv) (hts _ ai_lt) (hs _ (by decide +kernel)) hA0
    · exact (List.forall_mem_cons.mpr ⟨va_Nc.of (hs (Cond.not (.castable "java/lang/IllegalArgumentException" "java/lang/IllegalStateException")) (by decide +kernel)), List.forall_mem_cons.mpr ⟨va_Nc.of (hs (Cond.not (.castable "java/lang/IllegalStateException" "java/lang/IllegalArgumentException")) (by decide +kernel)), fun _ h => nomatch h⟩⟩)
  have hlt : ∀ k, k < 6 → ad k < s.heap.size := by
    have hT : ∀ {ty : FieldType} {t N : Nat} {f : Nat → Value}, va_T ty t N f (fun q => s.heap.size ≤ q) s s.heap → t < s.heap.size := fun h => by
      obtain ⟨cell, h1, -⟩ := h
      exact (Array.getElem?_eq_some_iff.mp h1).1
    intro k hk
    rw [had]
    match k, hk with
    | 0, _ => exact hbl
    | 1, _ => exact hT T1
    | 2, _ => exact hT T2
    | 3, _ => exact hT T3
    | 4, _ => exact hT T4
    | 5, _ => exact hT T5
    | (k + 6), h => omega
  have hw : ai_w vwCl D aiP.rc aiP.p0 s.heap.size ad (aiPre L xs) s s.heap := by
    have hP6 : aiP.p0 = 6 := rfl
    refine ⟨fun k c hk => ?_, fun k c hk j hj => ?_, fun i j a c hi hj h1 _ _ _ => ?_, fun i a hi h1 _ => ?_⟩
    · rw [hP6, had]
      match k, hk with
      | 0, hk => cases hk; exact ⟨fun h => absurd h (show ¬ 102 < 100 by decide), fun _ _ => ai_Xar hX (by omega)⟩
      | 1, hk => cases hk; exact ⟨fun h => absurd h (by decide), fun _ _ => ai_Tar T1 (by omega)⟩
      | 2, hk => cases hk; exact ⟨fun h => absurd h (by decide), fun _ _ => ai_Tar T2 (by omega)⟩
      | 3, hk => cases hk; exact ⟨fun h => absurd h (by decide), fun _ _ => ai_Tar T3 (by omega)⟩
      | 4, hk => cases hk; exact ⟨fun h => absurd h (by decide), fun _ _ => ai_Tar T4 (by omega)⟩
      | 5, hk => cases hk; exact ⟨fun h => absurd h (by decide), fun _ _ => ai_Tar T5 (by omega)⟩
      | (k + 6), hk => cases hk
    · match k, hk with
      | 0, hk => cases hk; exact ai_ok_i _ _
      | 1, hk => cases hk; exact ai_ok_i _ _
      | 2, hk => cases hk; exact ai_ok_i _ _
      | 3, hk => cases hk; exact ai_ok_i _ _
      | 4, hk => cases hk; exact ai_ok_i _ _
      | 5, hk => cases hk; exact ai_ok_n _
      | (k + 6), hk => cases hk
    · rw [hP6] at h1
      have := (List.getElem?_eq_some_iff.mp hi).1
      simp [aiPre] at this
      omega
    · rw [hP6] at h1
      have := (List.getElem?_eq_some_iff.mp hi).1
      simp [aiPre] at this
      omega
  have hlv := lv_entry ([Value.ref b]) (n := 7) (show 1 ≤ 7 by decide)
  rw [lg_entry_eq]
  generalize (lg_sl ([Value.ref b]) ++ List.replicate (7 - (lg_sl ([Value.ref b])).length) Slot.unset).toArray = ls at hlv ⊢
  have had0 : ad 0 = b := by rw [had]; rfl
  have hF : ai_F 7 ad (aiPre L xs).length [(0, .ref 0)] [] ls := ⟨by show lv_has ls 7 [(0, .ref (ad 0))]; rw [had0]; exact hlv, fun q hq => by rw [List.mem_singleton.mp hq]; exact fun k hk => (by cases hk; show 0 < 6; decide), fun v hv => by cases hv⟩
  have K := ai_sound (D := D) (n0 := s.heap.size) (A := fun q => s.heap.size ≤ q) ai_po hl hC (fun _ h => h) n 0 17 658 0 [(0, .ref 0)] [] (aiPre L xs) _ h' hrn p e room_1 s m #[Value.ref b] below meth c s.heap [] 0 0 600002 7302232 ls ad ad (aiPre L xs) hx hb hml hr hlocks hnm hown (fun w hw => hts w (List.mem_filter.mp hw).1) hE htab (fun q hq => by cases hq) (Nat.le_refl _) (Nat.le_refl _) (Nat.le_refl _) (Nat.le_refl _) (Nat.le_refl _) (by show 6 ≤ 6; omega) (fun _ _ => rfl) (Nat.le_refl _) hF hw va_S.rf (Nat.zero_add _) (Nat.zero_add _) (by show h'.length + 0 ≤ _ + 6; omega) (by show ai_sz h' + 6 * 0 ≤ _; omega)
  intro T hT X
  obtain ⟨t, a1, o, b1, b2, b3⟩ := K T hT X
  refine ⟨t, a1, o, b1, b2, ?_⟩
  rcases b3 with ⟨⟨v, ad', ho, -, hov, -⟩, L9, ⟨hv9, hW9, hs9⟩, hL9⟩ | ⟨q9, -, E, ce, L9, ⟨x9, ad9, ho, -⟩, -⟩
  · cases ho
    exact ⟨hov, hv9, hW9, hs9.weaken (fun y hy hlt => absurd hlt (Nat.not_lt.mpr (hL9 y hy))) (Nat.le_refl _) (Nat.le_refl _)⟩
  · cases ho
set_option maxHeartbeats 4000000 in
theorem lw_walk (l : Launch) (hl : l.stackTraces = false) (hC : ai_Catch l) (hrun : aiRuns) (b : Addr) (xs : List Int32) : MetFree l x (headSpec (Jvm.Cond.code x code maxLocals ret :: tables_1) room_1) (lw_P b xs) (fun _ _ _ _ _ => True) lw_Q := by
  refine MetFree.of_bodyS (code := code) (maxLocals := maxLocals) (ret := ret) (by decide) ?_ ?_
  · intro args s m h hn
    obtain ⟨meth, c, h1, h2, h3, h4, h5, h6, -, -⟩ := Cond.code_spec hn (atoms_spec (ws := Jvm.Cond.code x code maxLocals ret :: tables_1) h _ List.mem_cons_self)
    exact ⟨meth, c, h1, h2, h3, h4, h5, h6⟩
  · intro p e s m args below meth c s₁ B hml0 hP _
    obtain ⟨rfl, hx, hbd, hgv⟩ := hP
    obtain ⟨scr, harrAt, hlist, hof, hsmall⟩ := hx
    obtain ⟨hcb, hkn, -, -⟩ := State.arrayAt?_spec harrAt
    have hown : s.vm.findClass R_law = some m.cls := findClass_of_methodNamed B.named
    have hts0 : ∀ c ∈ (Jvm.Cond.code x code maxLocals ret :: tables_1), c.before #[Value.ref b] s = true := atoms_spec (ws := Jvm.Cond.code x code maxLocals ret :: tables_1) B.pre
    have hts : ∀ w ∈ lw_tbl, w.before #[Value.ref b] s = true := k2_hts_sels lw_privs (fun w hw => hts0 w (List.mem_cons_of_mem _ hw)) lw_privs_ok
    have hml : c.maxLocals = 7 := B.maxLocals_eq (hts0 _ List.mem_cons_self)
    have X₀ : Stand p l e room_1 s m #[Value.ref b] below meth c s₁ [] 0 0 := Stand.of_body B
    have hh0 : s₁.heap = s.heap := by rw [B.state]; rfl
    have hsz : scr.slots.size = xs.length := by rw [← Array.length_toList, hlist, List.length_map]
    have hval : ∀ j : Nat, j < xs.length → scr.slots[j]? = some (.int (xs.getD j 0)) := fun j hj => by
      rw [← Array.getElem?_toList, hlist]
      simp [hj]
    have hbl : b < s.heap.size := (Array.getElem?_eq_some_iff.mp hcb).1
    have hX : va_X b xs.length (fun j => xs.getD j 0) s s.heap := ⟨scr, hcb, hof, hkn, hsz, hval⟩
    have K : W p l e room_1 s m #[Value.ref b] below meth c s₁.heap [] 0 0 (lw_Z below #[Value.ref b] s) (entryFrame m ([Value.ref b] : List Value).toArray 7) := by
      rw [hh0]
      exact whole_start l hl hC hrun hbd ⟨B.exec, B.bytes, B.returns, hml, hown, hts, hX, hbl, B.notSynchronized, hgv, by rw [Array.isEmpty_iff.mp (B.noHandlers (hts0 _ List.mem_cons_self))]⟩ (name_of_methodNamed B.named B.method).1
    obtain ⟨t, a1, o, b1, b2, b3⟩ := K s₁ rfl X₀
    exact ⟨t, o, a1, b1, b2, b3⟩
theorem lw_pre_spec {args : Array Value} {s : State} (h : (Jvm.Cond.and given_1 narrow_1).before args s = true) (hr : rest_1_c.before args s = true) : ∃ (b : Addr) (xs : List Int32), lw_P b xs args s := by
  have hs := flat_of_before _ h
  have hq := flat_of_before _ hr
  have hc : (Cond.count 1).before args s = true := hs _ (by decide +kernel)
  have harr : (Cond.arrayOf (.arg 0) .int).before args s = true := hs _ (by decide +kernel)
  have hle : (Cond.le (.length (.arg 0)) (.int 6)).before args s = true := hs _ (by decide +kernel)
  have hlen : (Cond.isInt (.length (.arg 0))).before args s = true := hq _ (by decide +kernel)
  have hall : (Cond.all (.arg 0) (.isInt (.elem (.arg 0) (.index 0)))).before args s = true := hq _ (by decide +kernel)
  obtain ⟨b, xs, hb, hx⟩ := State.ints_of_pre rfl harr hlen hall
  have hsm : xs.length < 2 ^ 31 := hx.choose_spec.2.2.2
  have hev : (Term.length (.arg 0)).eval args s none [] s = some (.int xs.length.toInt32) := hx.length_eval hb
  have hv := Cond.le_ints hev (show (Term.int 6).eval args s none [] s = some (.int 6) from rfl)
  have hd : xs.length.toInt32 ≤ 6 := by
    simpa [Cond.before, Cond.holds, hv] using hle
  have hN : xs.length ≤ 6 := (Int32.ofNat_le_ofNat hsm (by decide)).mp (show Int32.ofNat xs.length ≤ Int32.ofNat 6 from hd)
  exact ⟨b, xs, Cond.one_arg hc (show args[0]? = some (.ref b) from hb), hx, hN, h⟩
theorem lw_comes (l : Launch) (hl : l.stackTraces = false) (hC : ai_Catch l) (hrun : aiRuns) : Comes l x (Jvm.Cond.code x code maxLocals ret :: tables_1) room_1 (fun tb e args s => Calls_1 tb e args s ∧ rest_1 tb e args s ∧ Pre_1 tb e args s)
    (fun _ _ args s o t => lw_Q args s o t) := by
  intro p e ha hc hk s m args below hf hfit hheap happ hpre
  obtain ⟨b, xs, hP⟩ := lw_pre_spec hpre.2.2 hpre.2.1
  obtain ⟨k, o, h1, h2, h3, hQ⟩ := lw_walk l hl hC hrun b xs p e ha hc hk s m args below hf ((Spec.applies_iff_loose hf).mp happ).1 hP trivial
  exact ⟨k, o, h1, h2, h3, hQ⟩
theorem lw_frame {s t : State} {o : Outcome} {args : Array Value} (h : Framed s o t [] 600002 7302232) :
    Framed s o t (fieldLocs frame_1_writes args s ++ arrayLocs frame_1_arrays args s ++ staticLocs frame_1_statics s) 600002 7302232 := h
theorem lw_limb (hC : ∀ l, ai_Catch l) (hrun : aiRuns) (L : Cond) (hL : ∀ (args : Array Value) (s t : State), L.after args s (.returned (some (.int 1))) t = true) :
    ArmFor flags0 classFile x code maxLocals ret World_1 tables_1 room_1 Calls_1 rest_1 Pre_1
      (fun tb e a s o t => postC L tb e a s o t ∧ Framed s o t (fieldLocs frame_1_writes a s ++ arrayLocs frame_1_arrays a s ++ staticLocs frame_1_statics s) 600002 7302232) := by
  intro l hfl _ _ p e ha hc hk s m args below hf hfit hheap happ hpre
  have hl : l.stackTraces = false := by unfold Launch.stackTraces; rw [hfl]; decide +kernel
  obtain ⟨k, o, h1, h2, h3, rfl, hF⟩ := lw_comes l hl (hC l) hrun p e ha hc hk s m args below hf hfit hheap happ hpre
  exact ⟨k, _, h1, h2, h3, hL args s _, lw_frame hF⟩
theorem ai_vc (hC : ∀ l, ai_Catch l) (hrun : aiRuns) : Claimed_1_1 ∧ Claimed_1_2 := ⟨lw_limb hC hrun limb_1_1 (fun args s t => by simp [limb_1_1, Cond.after, Cond.holds, Cond.value]), lw_limb hC hrun limb_1_2 (fun args s t => Cond.after_iff.mpr (by
  first | (rw [show limb_1_2 = Cond.eq .result (.int 1) from rfl, Cond.eq_ints (x := 1) (y := 1) rfl rfl]; simp; done) | (simp [limb_1_2, Cond.value, Term.eval]; done)))⟩
