/-! Numbers of the abstract machine. -/
def w32 (x : Int) : Int := Int.bmod x 4294967296
theorem w32_id {x : Int} (h : r32 x) : w32 x = x := by
  unfold r32 at h
  unfold w32 Int.bmod
  dsimp only
  split <;> omega
theorem w32_i {x : Int} (h1 : -2147483648 ≤ x) (h2 : x < 2147483648) : w32 x = x := w32_id ⟨h1, h2⟩
theorem w32_r (x : Int) : r32 (w32 x) := by
  unfold r32 w32 Int.bmod
  dsimp only
  split <;> omega
def w64 (x : Int) : Int := Int.bmod x 18446744073709551616
theorem w64_id {x : Int} (h : r64 x) : w64 x = x := by
  unfold r64 at h
  unfold w64 Int.bmod
  dsimp only
  split <;> omega
theorem w64_r (x : Int) : r64 (w64 x) := by
  unfold r64 w64 Int.bmod
  dsimp only
  split <;> omega
theorem of_toInt {x : Int} (h : r32 x) : (Int32.ofInt x).toInt = x := by
  rw [Int32.toInt_ofInt]
  exact w32_id h
theorem of_w32 (x : Int) : Int32.ofInt (w32 x) = Int32.ofInt x := by
  apply Int32.toInt_inj.mp
  rw [Int32.toInt_ofInt, Int32.toInt_ofInt]
  exact Int.bmod_bmod
theorem toInt_r (x : Int32) : r32 x.toInt := ⟨Int32.le_toInt x, Int32.toInt_lt x⟩
theorem of_toInt64 {x : Int} (h : r64 x) : (Int64.ofInt x).toInt = x := by
  rw [Int64.toInt_ofInt]
  exact w64_id h
theorem of_w64 (x : Int) : Int64.ofInt (w64 x) = Int64.ofInt x := by
  apply Int64.toInt_inj.mp
  rw [Int64.toInt_ofInt, Int64.toInt_ofInt]
  exact Int.bmod_bmod
theorem of_add (x y : Int) : Int32.ofInt x + Int32.ofInt y = Int32.ofInt (w32 (x + y)) := by rw [of_w32, Int32.ofInt_add]
theorem of_sub (x y : Int) : Int32.ofInt x - Int32.ofInt y = Int32.ofInt (w32 (x - y)) := by rw [of_w32, Int32.ofInt_sub]
theorem of_mul (x y : Int) : Int32.ofInt x * Int32.ofInt y = Int32.ofInt (w32 (x * y)) := by rw [of_w32, Int32.ofInt_mul]
theorem of_ladd (x y : Int) : Int64.ofInt x + Int64.ofInt y = Int64.ofInt (w64 (x + y)) := by rw [of_w64, Int64.ofInt_add]
def band (a b : Int) : Int := (Int32.ofInt a &&& Int32.ofInt b).toInt
def bor (a b : Int) : Int := (Int32.ofInt a ||| Int32.ofInt b).toInt
def bxor (a b : Int) : Int := (Int32.ofInt a ^^^ Int32.ofInt b).toInt
def bshl (a b : Int) : Int := (Int32.ofInt a <<< (Int32.ofInt b &&& 31)).toInt
def bshr (a b : Int) : Int := (Int32.ofInt a >>> (Int32.ofInt b &&& 31)).toInt
def bushr (a b : Int) : Int := (((Int32.ofInt a).toUInt32 >>> ((Int32.ofInt b).toUInt32 &&& Int32.toUInt32 31)).toInt32).toInt
def zdiv (a b : Int) : Int := (Int32.ofInt a / Int32.ofInt b).toInt
def zmod (a b : Int) : Int := (Int32.ofInt a - Int32.ofInt a / Int32.ofInt b * Int32.ofInt b).toInt
def zcmp (a b : Int) : Int := if b < a then 1 else if a = b then 0 else -1
theorem ii_lt {x y : Int} (hx : r32 x) (hy : r32 y) : Int32.ofInt x < Int32.ofInt y ↔ x < y := by rw [Int32.lt_iff_toInt_lt, of_toInt hx, of_toInt hy]
theorem ii_le {x y : Int} (hx : r32 x) (hy : r32 y) : Int32.ofInt x ≤ Int32.ofInt y ↔ x ≤ y := by rw [Int32.le_iff_toInt_le, of_toInt hx, of_toInt hy]
theorem ii_eq {x y : Int} (hx : r32 x) (hy : r32 y) : Int32.ofInt x = Int32.ofInt y ↔ x = y := by rw [← Int32.toInt_inj, of_toInt hx, of_toInt hy]
theorem r32_0 : r32 0 := by unfold r32; omega
theorem i0 : (0 : Int32) = Int32.ofInt 0 := by decide
theorem zok_hd {v : zV} {st : List zV} (h : ∀ u ∈ v :: st, zok u) : zok v := h v List.mem_cons_self
theorem zok_tl {v : zV} {st : List zV} (h : ∀ u ∈ v :: st, zok u) : ∀ u ∈ st, zok u := fun u hu => h u (List.mem_cons_of_mem _ hu)
theorem zok_cons {v : zV} {st : List zV} (h1 : zok v) (h : ∀ u ∈ st, zok u) : ∀ u ∈ v :: st, zok u := fun u hu => (List.mem_cons.mp hu).elim (fun q => q ▸ h1) (h u)
section Z1
variable {X : State → Nat → Prop} {l : Launch} {M : zMd} {B1 B2 : Nat} {Q : zQt} {pc : Nat} {ls : List (Option zV)} {st : List zV} {sh : zS} {h : zH}

theorem z_iconst {n : Int} (hd : decode (zb M) pc = .ok (.iconst n, 1)) (hr : r32 n) (k : zW X l M B1 B2 Q (pc + 1) ls (zi n :: st) sh h) : zW X l M B1 B2 Q pc ls st sh h := by
  intro p e R s m args below meth c Z base D I k0 n0 E H locs cells slots lsr h1 h2 hP hS hL hst hls
  have K := k p e R s m args below meth c Z base D I k0 n0 E H locs cells slots lsr h1 h2 hP hS hL (zok_cons hr hst) hls
  exact lv_iconst E.1.1 E.1.2.1 hd rfl K

theorem z_bipush {n : Int} (hd : decode (zb M) pc = .ok (.bipush n, 2)) (hr : -128 ≤ n ∧ n < 128) (k : zW X l M B1 B2 Q (pc + 2) ls (zi n :: st) sh h) : zW X l M B1 B2 Q pc ls st sh h := by
  intro p e R s m args below meth c Z base D I k0 n0 E H locs cells slots lsr h1 h2 hP hS hL hst hls
  have K := k p e R s m args below meth c Z base D I k0 n0 E H locs cells slots lsr h1 h2 hP hS hL (zok_cons (show r32 n by unfold r32; omega) hst) hls
  refine lv_bipush E.1.1 E.1.2.1 hd ?_ K
  apply Int32.toInt_inj.mp
  rw [Int8.toInt_toInt32, of_toInt (by unfold r32; omega), Int8.toInt_ofInt]
  have e9 : Int8.size = 256 := rfl
  rw [e9]
  unfold Int.bmod
  dsimp only
  split <;> omega

theorem z_sipush {n : Int} (hd : decode (zb M) pc = .ok (.sipush n, 3)) (hr : -32768 ≤ n ∧ n < 32768) (k : zW X l M B1 B2 Q (pc + 3) ls (zi n :: st) sh h) : zW X l M B1 B2 Q pc ls st sh h := by
  intro p e R s m args below meth c Z base D I k0 n0 E H locs cells slots lsr h1 h2 hP hS hL hst hls
  have K := k p e R s m args below meth c Z base D I k0 n0 E H locs cells slots lsr h1 h2 hP hS hL (zok_cons (show r32 n by unfold r32; omega) hst) hls
  refine lv_sipush E.1.1 E.1.2.1 hd ?_ K
  apply Int32.toInt_inj.mp
  rw [Int16.toInt_toInt32, of_toInt (by unfold r32; omega), Int16.toInt_ofInt]
  have e9 : Int16.size = 65536 := rfl
  rw [e9]
  unfold Int.bmod
  dsimp only
  split <;> omega

theorem z_lconst0  (hd : decode (zb M) pc = .ok (.lconst 0, 1))  (k : zW X l M B1 B2 Q (pc + 1) ls (zl 0 :: st) sh h) : zW X l M B1 B2 Q pc ls st sh h := by
  intro p e R s m args below meth c Z base D I k0 n0 E H locs cells slots lsr h1 h2 hP hS hL hst hls
  have K := k p e R s m args below meth c Z base D I k0 n0 E H locs cells slots lsr h1 h2 hP hS hL (zok_cons (show r64 0 by unfold r64; omega) hst) hls
  exact lv_lconst E.1.1 E.1.2.1 hd rfl K

theorem z_lconst1  (hd : decode (zb M) pc = .ok (.lconst 1, 1))  (k : zW X l M B1 B2 Q (pc + 1) ls (zl 1 :: st) sh h) : zW X l M B1 B2 Q pc ls st sh h := by
  intro p e R s m args below meth c Z base D I k0 n0 E H locs cells slots lsr h1 h2 hP hS hL hst hls
  have K := k p e R s m args below meth c Z base D I k0 n0 E H locs cells slots lsr h1 h2 hP hS hL (zok_cons (show r64 1 by unfold r64; omega) hst) hls
  exact lv_lconst E.1.1 E.1.2.1 hd rfl K

theorem z_ldc {n : Int} {idx : Nat} (hd : decode (zb M) pc = .ok (.ldc idx, 2)) (hw : Cond.constant (zy M).cls idx (Int32.ofInt n) ∈ zT) (hr : r32 n) (k : zW X l M B1 B2 Q (pc + 2) ls (zi n :: st) sh h) : zW X l M B1 B2 Q pc ls st sh h := by
  intro p e R s m args below meth c Z base D I k0 n0 E H locs cells slots lsr h1 h2 hP hS hL hst hls
  have K := k p e R s m args below meth c Z base D I k0 n0 E H locs cells slots lsr h1 h2 hP hS hL (zok_cons hr hst) hls
  exact lv_ldc E.1.1 E.1.2.1 E.1.2.2.2.1 (E.1.2.2.2.2 _ hw) hd K

theorem z_ldcw {n : Int} {idx : Nat} (hd : decode (zb M) pc = .ok (.ldc_w idx, 3)) (hw : Cond.constant (zy M).cls idx (Int32.ofInt n) ∈ zT) (hr : r32 n) (k : zW X l M B1 B2 Q (pc + 3) ls (zi n :: st) sh h) : zW X l M B1 B2 Q pc ls st sh h := by
  intro p e R s m args below meth c Z base D I k0 n0 E H locs cells slots lsr h1 h2 hP hS hL hst hls
  have K := k p e R s m args below meth c Z base D I k0 n0 E H locs cells slots lsr h1 h2 hP hS hL (zok_cons hr hst) hls
  exact lv_ldcw E.1.1 E.1.2.1 E.1.2.2.2.1 (E.1.2.2.2.2 _ hw) hd K

theorem z_ldc2 {n : Int} {idx : Nat} (hd : decode (zb M) pc = .ok (.ldc2_w idx, 3)) (hw : Cond.constantLong (zy M).cls idx (Int64.ofInt n) ∈ zT) (hr : r32 n) (k : zW X l M B1 B2 Q (pc + 3) ls (zl n :: st) sh h) : zW X l M B1 B2 Q pc ls st sh h := by
  intro p e R s m args below meth c Z base D I k0 n0 E H locs cells slots lsr h1 h2 hP hS hL hst hls
  have K := k p e R s m args below meth c Z base D I k0 n0 E H locs cells slots lsr h1 h2 hP hS hL (zok_cons (show r64 n by unfold r32 at hr; unfold r64; omega) hst) hls
  exact lv_ldc2 E.1.1 E.1.2.1 E.1.2.2.2.1 (E.1.2.2.2.2 _ hw) hd K

theorem z_iload_n {i : Fin 4} {x : Int} (hd : decode (zb M) pc = .ok (.iload_n i, 1)) (hx : ls[(i : Nat)]? = some (some (zi x)))  (k : zW X l M B1 B2 Q (pc + 1) ls (zi x :: st) sh h) : zW X l M B1 B2 Q pc ls st sh h := by
  intro p e R s m args below meth c Z base D I k0 n0 E H locs cells slots lsr h1 h2 hP hS hL hst hls
  have K := k p e R s m args below meth c Z base D I k0 n0 E H locs cells slots lsr h1 h2 hP hS hL (zok_cons (hls _ (List.mem_of_getElem? hx)) hst) hls
  have hg := hL.2.2.2 _ _ hx
  exact lv_iload_n E.1.1 E.1.2.1 hd rfl hg K

theorem z_iload {i : Nat} {x : Int} (hd : decode (zb M) pc = .ok (.iload i, 2)) (hx : ls[i]? = some (some (zi x)))  (k : zW X l M B1 B2 Q (pc + 2) ls (zi x :: st) sh h) : zW X l M B1 B2 Q pc ls st sh h := by
  intro p e R s m args below meth c Z base D I k0 n0 E H locs cells slots lsr h1 h2 hP hS hL hst hls
  have K := k p e R s m args below meth c Z base D I k0 n0 E H locs cells slots lsr h1 h2 hP hS hL (zok_cons (hls _ (List.mem_of_getElem? hx)) hst) hls
  have hg := hL.2.2.2 _ _ hx
  exact lv_iload E.1.1 E.1.2.1 hd hg K

theorem z_lload_n {i : Fin 4} {x : Int} (hd : decode (zb M) pc = .ok (.lload_n i, 1)) (hx : ls[(i : Nat)]? = some (some (zl x)))  (k : zW X l M B1 B2 Q (pc + 1) ls (zl x :: st) sh h) : zW X l M B1 B2 Q pc ls st sh h := by
  intro p e R s m args below meth c Z base D I k0 n0 E H locs cells slots lsr h1 h2 hP hS hL hst hls
  have K := k p e R s m args below meth c Z base D I k0 n0 E H locs cells slots lsr h1 h2 hP hS hL (zok_cons (hls _ (List.mem_of_getElem? hx)) hst) hls
  have hg := hL.2.2.2 _ _ hx
  exact lv_lload_n E.1.1 E.1.2.1 hd rfl hg K

theorem z_lload {i : Nat} {x : Int} (hd : decode (zb M) pc = .ok (.lload i, 2)) (hx : ls[i]? = some (some (zl x)))  (k : zW X l M B1 B2 Q (pc + 2) ls (zl x :: st) sh h) : zW X l M B1 B2 Q pc ls st sh h := by
  intro p e R s m args below meth c Z base D I k0 n0 E H locs cells slots lsr h1 h2 hP hS hL hst hls
  have K := k p e R s m args below meth c Z base D I k0 n0 E H locs cells slots lsr h1 h2 hP hS hL (zok_cons (hls _ (List.mem_of_getElem? hx)) hst) hls
  have hg := hL.2.2.2 _ _ hx
  exact lv_lload E.1.1 E.1.2.1 hd hg K

theorem z_aload_n {i : Fin 4} {x : Int} (hd : decode (zb M) pc = .ok (.aload_n i, 1)) (hx : ls[(i : Nat)]? = some (some (zr x))) (h0 : x ≠ 0) (k : zW X l M B1 B2 Q (pc + 1) ls (zr x :: st) sh h) : zW X l M B1 B2 Q pc ls st sh h := by
  intro p e R s m args below meth c Z base D I k0 n0 E H locs cells slots lsr h1 h2 hP hS hL hst hls
  have K := k p e R s m args below meth c Z base D I k0 n0 E H locs cells slots lsr h1 h2 hP hS hL (zok_cons (hls _ (List.mem_of_getElem? hx)) hst) hls
  have hg := hL.2.2.2 _ _ hx
  have hz : zc base (zr x) = .ref (zad base x) := zrf_ne h0
  rw [hz] at hg
  simp only [List.map_cons, hz] at K
  exact lv_aload_n E.1.1 E.1.2.1 hd rfl hg K

theorem z_aload {i : Nat} {x : Int} (hd : decode (zb M) pc = .ok (.aload i, 2)) (hx : ls[i]? = some (some (zr x))) (h0 : x ≠ 0) (k : zW X l M B1 B2 Q (pc + 2) ls (zr x :: st) sh h) : zW X l M B1 B2 Q pc ls st sh h := by
  intro p e R s m args below meth c Z base D I k0 n0 E H locs cells slots lsr h1 h2 hP hS hL hst hls
  have K := k p e R s m args below meth c Z base D I k0 n0 E H locs cells slots lsr h1 h2 hP hS hL (zok_cons (hls _ (List.mem_of_getElem? hx)) hst) hls
  have hg := hL.2.2.2 _ _ hx
  have hz : zc base (zr x) = .ref (zad base x) := zrf_ne h0
  rw [hz] at hg
  simp only [List.map_cons, hz] at K
  exact lv_aload E.1.1 E.1.2.1 hd hg K

def zas (base : Nat) (ls : List (Option zV)) : List (Nat × Value) := (List.range ls.length).filterMap (fun i => (ls[i]?.join).map (fun v => (i, zc base v)))
theorem zas_mem {base : Nat} {ls : List (Option zV)} {q : Nat × Value} : q ∈ zas base ls ↔ ∃ v, ls[q.1]? = some (some v) ∧ q.2 = zc base v := by
  unfold zas
  rw [List.mem_filterMap]
  constructor
  · rintro ⟨i, -, hi⟩
    cases hj : ls[i]? with
    | none => rw [hj] at hi; cases hi
    | some o =>
      cases o with
      | none => rw [hj] at hi; cases hi
      | some v =>
        rw [hj] at hi
        cases hi
        exact ⟨v, hj, rfl⟩
  · rintro ⟨v, hv, he⟩
    refine ⟨q.1, List.mem_range.mpr (List.getElem?_eq_some_iff.mp hv).1, ?_⟩
    rw [hv]
    show some (q.1, zc base v) = some q
    rw [← he]
theorem zas_has {base nL : Nat} {lsr : Array Slot} {ls : List (Option zV)} (hL : zL base nL lsr ls) : lv_has lsr nL (zas base ls) := ⟨hL.2.1, hL.2.2.1, fun q hq => by
  obtain ⟨v, h1, h2⟩ := zas_mem.mp hq
  rw [h2]
  exact hL.2.2.2 _ _ h1⟩
/-- no long just ahead of the place -/
def zsafe (ls : List (Option zV)) (i : Nat) : Bool := match i with
  | 0 => true
  | j + 1 => match ls[j]? with
    | some (some (.inr (.inr _))) => false
    | _ => true
theorem zas_set {base nL i : Nat} {lsr lsr' : Array Slot} {ls : List (Option zV)} {v : zV} (hL : zL base nL lsr ls) (hi : i < nL) (hs : zsafe ls i = true) (h : lv_has lsr' nL ((i, zc base v) :: (zas base ls).filter (fun q => !(q.1 == i) && !(q.1 + 1 == i && q.2.category == 2)))) : zL base nL lsr' (ls.set i (some v)) := by
  refine ⟨by rw [List.length_set]; exact hL.1, h.1, h.2.1, fun j u hj => ?_⟩
  by_cases hji : j = i
  · subst hji
    rw [List.getElem?_set_self (by rw [hL.1]; exact hi)] at hj
    cases hj
    exact h.2.2 (j, zc base v) List.mem_cons_self
  · rw [List.getElem?_set_ne (Ne.symm hji)] at hj
    refine h.2.2 (j, zc base u) (List.mem_cons_of_mem _ (List.mem_filter.mpr ⟨zas_mem.mpr ⟨u, hj, rfl⟩, ?_⟩))
    have e1 : (j == i) = false := by simp [hji]
    have e2 : (j + 1 == i && (zc base u).category == 2) = false := by
      by_cases h3 : j + 1 = i
      · subst h3
        unfold zsafe at hs
        simp only at hs
        rw [hj] at hs
        rw [zc_cat]
        rcases u with x | x | x
        · simp [zcat]
        · simp [zcat]
        · simp at hs
      · simp [h3]
    simp only [e1, e2, Bool.not_false, Bool.and_true]
theorem zls_set {ls : List (Option zV)} {i : Nat} {v : zV} (hv : zok v) (hls : ∀ u, some u ∈ ls → zok u) : ∀ u, some u ∈ ls.set i (some v) → zok u := fun u hu => by
  rcases List.mem_or_eq_of_mem_set hu with h | h
  · exact hls u h
  · cases h; exact hv

theorem z_istore_n {i : Fin 4} {x : Int} {ls' : List (Option zV)} (hd : decode (zb M) pc = .ok (.istore_n i, 1)) (hi : (i : Nat) < znl M) (hs : zsafe ls (i : Nat) = true)  (hl : ls.set (i : Nat) (some (zi x)) = ls') (k : zW X l M B1 B2 Q (pc + 1) ls' st sh h) : zW X l M B1 B2 Q pc ls (zi x :: st) sh h := by
  subst hl
  intro p e R s m args below meth c Z base D I k0 n0 E H locs cells slots lsr h1 h2 hP hS hL hst hls
  refine lv_istore_n (nL := znl M) (lv := zas base ls) E.1.1 E.1.2.1 hd rfl (zas_has hL) hi rfl fun lsr' hl' => ?_
  exact k p e R s m args below meth c Z base D I k0 n0 E H locs cells slots lsr' h1 h2 hP hS (zas_set hL hi hs hl') (zok_tl hst) (zls_set (zok_hd hst) hls)

theorem z_istore {i : Nat} {x : Int} {ls' : List (Option zV)} (hd : decode (zb M) pc = .ok (.istore i, 2)) (hi : i < znl M) (hs : zsafe ls i = true)  (hl : ls.set i (some (zi x)) = ls') (k : zW X l M B1 B2 Q (pc + 2) ls' st sh h) : zW X l M B1 B2 Q pc ls (zi x :: st) sh h := by
  subst hl
  intro p e R s m args below meth c Z base D I k0 n0 E H locs cells slots lsr h1 h2 hP hS hL hst hls
  refine lv_istore (nL := znl M) (lv := zas base ls) E.1.1 E.1.2.1 hd (zas_has hL) hi rfl fun lsr' hl' => ?_
  exact k p e R s m args below meth c Z base D I k0 n0 E H locs cells slots lsr' h1 h2 hP hS (zas_set hL hi hs hl') (zok_tl hst) (zls_set (zok_hd hst) hls)

theorem z_astore_n {i : Fin 4} {x : Int} {ls' : List (Option zV)} (hd : decode (zb M) pc = .ok (.astore_n i, 1)) (hi : (i : Nat) < znl M) (hs : zsafe ls (i : Nat) = true) (h0 : x ≠ 0) (hl : ls.set (i : Nat) (some (zr x)) = ls') (k : zW X l M B1 B2 Q (pc + 1) ls' st sh h) : zW X l M B1 B2 Q pc ls (zr x :: st) sh h := by
  subst hl
  intro p e R s m args below meth c Z base D I k0 n0 E H locs cells slots lsr h1 h2 hP hS hL hst hls
  have hz : zc base (zr x) = .ref (zad base x) := zrf_ne h0
  simp only [List.map_cons, hz]
  refine lv_astore_n (nL := znl M) (lv := zas base ls) E.1.1 E.1.2.1 hd rfl (zas_has hL) hi rfl fun lsr' hl' => ?_
  rw [← hz] at hl'
  exact k p e R s m args below meth c Z base D I k0 n0 E H locs cells slots lsr' h1 h2 hP hS (zas_set hL hi hs hl') (zok_tl hst) (zls_set (zok_hd hst) hls)

theorem z_iinc {i : Nat} {n x : Int} {ls' : List (Option zV)} (hd : decode (zb M) pc = .ok (.iinc i n, 3)) (hi : i < znl M) (hs : zsafe ls i = true) (hx : ls[i]? = some (some (zi x))) (hl : ls.set i (some (zi (w32 (x + n)))) = ls') (k : zW X l M B1 B2 Q (pc + 3) ls' st sh h) : zW X l M B1 B2 Q pc ls st sh h := by
  subst hl
  intro p e R s m args below meth c Z base D I k0 n0 E H locs cells slots lsr h1 h2 hP hS hL hst hls
  obtain ⟨k9, hk9⟩ := List.getElem?_of_mem (zas_mem (base := base) (q := (i, zc base (zi x))) |>.mpr ⟨zi x, hx, rfl⟩)
  refine lv_iinc (nL := znl M) (lv := zas base ls) (k := k9) (x := Int32.ofInt x) (v := Int32.ofInt (w32 (x + n))) E.1.1 E.1.2.1 hd (zas_has hL) hk9 (of_add x n) hi rfl fun lsr' hl' => ?_
  exact k p e R s m args below meth c Z base D I k0 n0 E H locs cells slots lsr' h1 h2 hP hS (zas_set (v := zi (w32 (x + n))) hL hi hs hl') hst (zls_set (w32_r _) hls)

theorem z_iadd {x y : Int} (hd : decode (zb M) pc = .ok (.iadd, 1))  (k : zW X l M B1 B2 Q (pc + 1) ls (zi (w32 (x + y)) :: st) sh h) : zW X l M B1 B2 Q pc ls (zi y :: zi x :: st) sh h := by
  intro p e R s m args below meth c Z base D I k0 n0 E H locs cells slots lsr h1 h2 hP hS hL hst hls
  have K := k p e R s m args below meth c Z base D I k0 n0 E H locs cells slots lsr h1 h2 hP hS hL (zok_cons (w32_r _) (zok_tl (zok_tl hst))) hls
  refine lv_iadd E.1.1 E.1.2.1 hd  ?_
  rw [of_add]
  exact K

theorem z_isub {x y : Int} (hd : decode (zb M) pc = .ok (.isub, 1))  (k : zW X l M B1 B2 Q (pc + 1) ls (zi (w32 (x - y)) :: st) sh h) : zW X l M B1 B2 Q pc ls (zi y :: zi x :: st) sh h := by
  intro p e R s m args below meth c Z base D I k0 n0 E H locs cells slots lsr h1 h2 hP hS hL hst hls
  have K := k p e R s m args below meth c Z base D I k0 n0 E H locs cells slots lsr h1 h2 hP hS hL (zok_cons (w32_r _) (zok_tl (zok_tl hst))) hls
  refine lv_isub E.1.1 E.1.2.1 hd  ?_
  rw [of_sub]
  exact K

theorem z_imul {x y : Int} (hd : decode (zb M) pc = .ok (.imul, 1))  (k : zW X l M B1 B2 Q (pc + 1) ls (zi (w32 (x * y)) :: st) sh h) : zW X l M B1 B2 Q pc ls (zi y :: zi x :: st) sh h := by
  intro p e R s m args below meth c Z base D I k0 n0 E H locs cells slots lsr h1 h2 hP hS hL hst hls
  have K := k p e R s m args below meth c Z base D I k0 n0 E H locs cells slots lsr h1 h2 hP hS hL (zok_cons (w32_r _) (zok_tl (zok_tl hst))) hls
  refine lv_imul E.1.1 E.1.2.1 hd  ?_
  rw [of_mul]
  exact K

theorem z_iand {x y : Int} (hd : decode (zb M) pc = .ok (.iand, 1))  (k : zW X l M B1 B2 Q (pc + 1) ls (zi (band x y) :: st) sh h) : zW X l M B1 B2 Q pc ls (zi y :: zi x :: st) sh h := by
  intro p e R s m args below meth c Z base D I k0 n0 E H locs cells slots lsr h1 h2 hP hS hL hst hls
  have K := k p e R s m args below meth c Z base D I k0 n0 E H locs cells slots lsr h1 h2 hP hS hL (zok_cons (toInt_r _) (zok_tl (zok_tl hst))) hls
  refine lv_iand E.1.1 E.1.2.1 hd  ?_
  have hz : Int32.ofInt (band x y) = _ := Int32.ofInt_toInt _
  simp only [List.map_cons, zc, hz] at K
  exact K

theorem z_ior {x y : Int} (hd : decode (zb M) pc = .ok (.ior, 1))  (k : zW X l M B1 B2 Q (pc + 1) ls (zi (bor x y) :: st) sh h) : zW X l M B1 B2 Q pc ls (zi y :: zi x :: st) sh h := by
  intro p e R s m args below meth c Z base D I k0 n0 E H locs cells slots lsr h1 h2 hP hS hL hst hls
  have K := k p e R s m args below meth c Z base D I k0 n0 E H locs cells slots lsr h1 h2 hP hS hL (zok_cons (toInt_r _) (zok_tl (zok_tl hst))) hls
  refine lv_ior E.1.1 E.1.2.1 hd  ?_
  have hz : Int32.ofInt (bor x y) = _ := Int32.ofInt_toInt _
  simp only [List.map_cons, zc, hz] at K
  exact K

theorem z_ixor {x y : Int} (hd : decode (zb M) pc = .ok (.ixor, 1))  (k : zW X l M B1 B2 Q (pc + 1) ls (zi (bxor x y) :: st) sh h) : zW X l M B1 B2 Q pc ls (zi y :: zi x :: st) sh h := by
  intro p e R s m args below meth c Z base D I k0 n0 E H locs cells slots lsr h1 h2 hP hS hL hst hls
  have K := k p e R s m args below meth c Z base D I k0 n0 E H locs cells slots lsr h1 h2 hP hS hL (zok_cons (toInt_r _) (zok_tl (zok_tl hst))) hls
  refine lv_ixor E.1.1 E.1.2.1 hd  ?_
  have hz : Int32.ofInt (bxor x y) = _ := Int32.ofInt_toInt _
  simp only [List.map_cons, zc, hz] at K
  exact K

theorem z_ishl {x y : Int} (hd : decode (zb M) pc = .ok (.ishl, 1))  (k : zW X l M B1 B2 Q (pc + 1) ls (zi (bshl x y) :: st) sh h) : zW X l M B1 B2 Q pc ls (zi y :: zi x :: st) sh h := by
  intro p e R s m args below meth c Z base D I k0 n0 E H locs cells slots lsr h1 h2 hP hS hL hst hls
  have K := k p e R s m args below meth c Z base D I k0 n0 E H locs cells slots lsr h1 h2 hP hS hL (zok_cons (toInt_r _) (zok_tl (zok_tl hst))) hls
  refine lv_ishl E.1.1 E.1.2.1 hd  ?_
  have hz : Int32.ofInt (bshl x y) = _ := Int32.ofInt_toInt _
  simp only [List.map_cons, zc, hz] at K
  exact K

theorem z_ishr {x y : Int} (hd : decode (zb M) pc = .ok (.ishr, 1))  (k : zW X l M B1 B2 Q (pc + 1) ls (zi (bshr x y) :: st) sh h) : zW X l M B1 B2 Q pc ls (zi y :: zi x :: st) sh h := by
  intro p e R s m args below meth c Z base D I k0 n0 E H locs cells slots lsr h1 h2 hP hS hL hst hls
  have K := k p e R s m args below meth c Z base D I k0 n0 E H locs cells slots lsr h1 h2 hP hS hL (zok_cons (toInt_r _) (zok_tl (zok_tl hst))) hls
  refine lv_ishr E.1.1 E.1.2.1 hd  ?_
  have hz : Int32.ofInt (bshr x y) = _ := Int32.ofInt_toInt _
  simp only [List.map_cons, zc, hz] at K
  exact K

theorem z_iushr {x y : Int} (hd : decode (zb M) pc = .ok (.iushr, 1))  (k : zW X l M B1 B2 Q (pc + 1) ls (zi (bushr x y) :: st) sh h) : zW X l M B1 B2 Q pc ls (zi y :: zi x :: st) sh h := by
  intro p e R s m args below meth c Z base D I k0 n0 E H locs cells slots lsr h1 h2 hP hS hL hst hls
  have K := k p e R s m args below meth c Z base D I k0 n0 E H locs cells slots lsr h1 h2 hP hS hL (zok_cons (toInt_r _) (zok_tl (zok_tl hst))) hls
  refine lv_iushr E.1.1 E.1.2.1 hd rfl ?_
  have hz : Int32.ofInt (bushr x y) = _ := Int32.ofInt_toInt _
  simp only [List.map_cons, zc, hz] at K
  exact K

theorem z_idiv {x y : Int} (hd : decode (zb M) pc = .ok (.idiv, 1)) (hne : ¬ y = 0) (k : zW X l M B1 B2 Q (pc + 1) ls (zi (zdiv x y) :: st) sh h) : zW X l M B1 B2 Q pc ls (zi y :: zi x :: st) sh h := by
  intro p e R s m args below meth c Z base D I k0 n0 E H locs cells slots lsr h1 h2 hP hS hL hst hls
  have K := k p e R s m args below meth c Z base D I k0 n0 E H locs cells slots lsr h1 h2 hP hS hL (zok_cons (toInt_r _) (zok_tl (zok_tl hst))) hls
  refine lv_idiv E.1.1 E.1.2.1 hd (by rw [i0]; rw [ii_eq (zok_hd hst) r32_0]; exact hne) ?_
  have hz : Int32.ofInt (zdiv x y) = _ := Int32.ofInt_toInt _
  simp only [List.map_cons, zc, hz] at K
  exact K

theorem z_irem {x y : Int} (hd : decode (zb M) pc = .ok (.irem, 1)) (hne : ¬ y = 0) (k : zW X l M B1 B2 Q (pc + 1) ls (zi (zmod x y) :: st) sh h) : zW X l M B1 B2 Q pc ls (zi y :: zi x :: st) sh h := by
  intro p e R s m args below meth c Z base D I k0 n0 E H locs cells slots lsr h1 h2 hP hS hL hst hls
  have K := k p e R s m args below meth c Z base D I k0 n0 E H locs cells slots lsr h1 h2 hP hS hL (zok_cons (toInt_r _) (zok_tl (zok_tl hst))) hls
  refine lv_irem E.1.1 E.1.2.1 hd (by rw [i0]; rw [ii_eq (zok_hd hst) r32_0]; exact hne) ?_
  have hz : Int32.ofInt (zmod x y) = _ := Int32.ofInt_toInt _
  simp only [List.map_cons, zc, hz] at K
  exact K

theorem z_ladd {x y : Int} (hd : decode (zb M) pc = .ok (.ladd, 1))  (k : zW X l M B1 B2 Q (pc + 1) ls (zl (w64 (x + y)) :: st) sh h) : zW X l M B1 B2 Q pc ls (zl y :: zl x :: st) sh h := by
  intro p e R s m args below meth c Z base D I k0 n0 E H locs cells slots lsr h1 h2 hP hS hL hst hls
  have K := k p e R s m args below meth c Z base D I k0 n0 E H locs cells slots lsr h1 h2 hP hS hL (zok_cons (w64_r _) (zok_tl (zok_tl hst))) hls
  refine lv_ladd E.1.1 E.1.2.1 hd  ?_
  rw [of_ladd]
  exact K

theorem z_i2l {x : Int} (hd : decode (zb M) pc = .ok (.i2l, 1)) (k : zW X l M B1 B2 Q (pc + 1) ls (zl x :: st) sh h) : zW X l M B1 B2 Q pc ls (zi x :: st) sh h := by
  intro p e R s m args below meth c Z base D I k0 n0 E H locs cells slots lsr h1 h2 hP hS hL hst hls
  have hx : r32 x := zok_hd hst
  have hx2 : r64 x := by unfold r32 at hx; unfold r64; omega
  have K := k p e R s m args below meth c Z base D I k0 n0 E H locs cells slots lsr h1 h2 hP hS hL (zok_cons hx2 (zok_tl hst)) hls
  refine lv_i2l E.1.1 E.1.2.1 hd ?_ K
  apply Int64.toInt_inj.mp
  rw [Int32.toInt_toInt64, of_toInt hx, of_toInt64 hx2]
theorem z_lcmp {x y : Int} (hd : decode (zb M) pc = .ok (.lcmp, 1)) (k : zW X l M B1 B2 Q (pc + 1) ls (zi (zcmp x y) :: st) sh h) : zW X l M B1 B2 Q pc ls (zl y :: zl x :: st) sh h := by
  intro p e R s m args below meth c Z base D I k0 n0 E H locs cells slots lsr h1 h2 hP hS hL hst hls
  have hy : r64 y := zok_hd hst
  have hx : r64 x := zok_hd (zok_tl hst)
  have hr : r32 (zcmp x y) := by unfold zcmp r32; split <;> (try split) <;> omega
  have K := k p e R s m args below meth c Z base D I k0 n0 E H locs cells slots lsr h1 h2 hP hS hL (zok_cons hr (zok_tl (zok_tl hst))) hls
  have e1 : Int64.ofInt y < Int64.ofInt x ↔ y < x := by rw [Int64.lt_iff_toInt_lt, of_toInt64 hx, of_toInt64 hy]
  have e2 : Int64.ofInt x = Int64.ofInt y ↔ x = y := by rw [← Int64.toInt_inj, of_toInt64 hx, of_toInt64 hy]
  have hz : lg_cmp (Int64.ofInt x) (Int64.ofInt y) = Int32.ofInt (zcmp x y) := by
    unfold lg_cmp zcmp
    by_cases g1 : y < x
    · simp [e1, g1]; try decide
    · by_cases g2 : x = y
      · subst g2
        simp; try decide
      · simp [e1, e2, g1, g2]; try decide
  refine W.lcmp E.1.1 E.1.2.1 hd ?_
  rw [hz]
  exact K
theorem z_dup {v : zV} (hd : decode (zb M) pc = .ok (.dup, 1)) (hc : zcat v = 1) (k : zW X l M B1 B2 Q (pc + 1) ls (v :: v :: st) sh h) : zW X l M B1 B2 Q pc ls (v :: st) sh h := by
  intro p e R s m args below meth c Z base D I k0 n0 E H locs cells slots lsr h1 h2 hP hS hL hst hls
  exact lv_dup E.1.1 E.1.2.1 hd (by rw [zc_cat]; exact hc) (k p e R s m args below meth c Z base D I k0 n0 E H locs cells slots lsr h1 h2 hP hS hL (zok_cons (zok_hd hst) hst) hls)
theorem z_pop {v : zV} (hd : decode (zb M) pc = .ok (.pop, 1)) (hc : zcat v = 1) (k : zW X l M B1 B2 Q (pc + 1) ls st sh h) : zW X l M B1 B2 Q pc ls (v :: st) sh h := by
  intro p e R s m args below meth c Z base D I k0 n0 E H locs cells slots lsr h1 h2 hP hS hL hst hls
  exact lv_pop E.1.1 E.1.2.1 hd (by rw [zc_cat]; exact hc) (k p e R s m args below meth c Z base D I k0 n0 E H locs cells slots lsr h1 h2 hP hS hL (zok_tl hst) hls)
theorem z_dup2 {v u : zV} (hd : decode (zb M) pc = .ok (.dup2, 1)) (hc : zcat v = 1) (hc2 : zcat u = 1) (k : zW X l M B1 B2 Q (pc + 1) ls (v :: u :: v :: u :: st) sh h) : zW X l M B1 B2 Q pc ls (v :: u :: st) sh h := by
  intro p e R s m args below meth c Z base D I k0 n0 E H locs cells slots lsr h1 h2 hP hS hL hst hls
  exact lv_dup2_11 E.1.1 E.1.2.1 hd (by rw [zc_cat]; exact hc) (by rw [zc_cat]; exact hc2) (k p e R s m args below meth c Z base D I k0 n0 E H locs cells slots lsr h1 h2 hP hS hL (zok_cons (zok_hd hst) (zok_cons (zok_hd (zok_tl hst)) hst)) hls)
theorem z_goto {off : Int} {tgt : Nat} (hd : decode (zb M) pc = .ok (.goto off, 3)) (ht : (pc : Int) + off = (tgt : Int)) (k : zW X l M B1 B2 Q tgt ls st sh h) : zW X l M B1 B2 Q pc ls st sh h := by
  intro p e R s m args below meth c Z base D I k0 n0 E H locs cells slots lsr h1 h2 hP hS hL hst hls
  exact lv_goto E.1.1 E.1.2.1 hd ht (k p e R s m args below meth c Z base D I k0 n0 E H locs cells slots lsr h1 h2 hP hS hL hst hls)

-- if eq: x = 0 / ¬ x = 0
theorem z_if_eq {x : Int} {off : Int} {tgt : Nat} (hd : decode (zb M) pc = .ok (.ifCond .eq off, 3)) (ht : (pc : Int) + off = (tgt : Int)) (kt : x = 0 → zW X l M B1 B2 Q tgt ls st sh h) (kf : ¬ x = 0 → zW X l M B1 B2 Q (pc + 3) ls st sh h) : zW X l M B1 B2 Q pc ls (zi x :: st) sh h := by
  intro p e R s m args below meth c Z base D I k0 n0 E H locs cells slots lsr h1 h2 hP hS hL hst hls
  have hx : r32 x := zok_hd hst
  have hiff := ii_eq hx r32_0
  rw [← i0] at hiff
  refine lv_if_eq E.1.1 E.1.2.1 hd ht (fun g => ?_) (fun g => ?_)
  · exact kt (hiff.mp g) p e R s m args below meth c Z base D I k0 n0 E H locs cells slots lsr h1 h2 hP hS hL (zok_tl hst) hls
  · exact kf (fun q => g (hiff.mpr q)) p e R s m args below meth c Z base D I k0 n0 E H locs cells slots lsr h1 h2 hP hS hL (zok_tl hst) hls

-- icmp eq: x = y / ¬ x = y
theorem z_icmp_eq {x y : Int} {off : Int} {tgt : Nat} (hd : decode (zb M) pc = .ok (.if_icmp .eq off, 3)) (ht : (pc : Int) + off = (tgt : Int)) (kt : x = y → zW X l M B1 B2 Q tgt ls st sh h) (kf : ¬ x = y → zW X l M B1 B2 Q (pc + 3) ls st sh h) : zW X l M B1 B2 Q pc ls (zi y :: zi x :: st) sh h := by
  intro p e R s m args below meth c Z base D I k0 n0 E H locs cells slots lsr h1 h2 hP hS hL hst hls
  have hy : r32 y := zok_hd hst
  have hx : r32 x := zok_hd (zok_tl hst)
  have hiff := ii_eq hx hy
  skip
  refine lv_icmp_eq E.1.1 E.1.2.1 hd ht (fun g => ?_) (fun g => ?_)
  · exact kt (hiff.mp g) p e R s m args below meth c Z base D I k0 n0 E H locs cells slots lsr h1 h2 hP hS hL (zok_tl (zok_tl hst)) hls
  · exact kf (fun q => g (hiff.mpr q)) p e R s m args below meth c Z base D I k0 n0 E H locs cells slots lsr h1 h2 hP hS hL (zok_tl (zok_tl hst)) hls

-- if ne: ¬ x = 0 / x = 0
theorem z_if_ne {x : Int} {off : Int} {tgt : Nat} (hd : decode (zb M) pc = .ok (.ifCond .ne off, 3)) (ht : (pc : Int) + off = (tgt : Int)) (kt : ¬ x = 0 → zW X l M B1 B2 Q tgt ls st sh h) (kf : x = 0 → zW X l M B1 B2 Q (pc + 3) ls st sh h) : zW X l M B1 B2 Q pc ls (zi x :: st) sh h := by
  intro p e R s m args below meth c Z base D I k0 n0 E H locs cells slots lsr h1 h2 hP hS hL hst hls
  have hx : r32 x := zok_hd hst
  have hiff := ii_eq hx r32_0
  rw [← i0] at hiff
  refine lv_if_ne E.1.1 E.1.2.1 hd ht (fun g => ?_) (fun g => ?_)
  · exact kt (fun q => g (hiff.mpr q)) p e R s m args below meth c Z base D I k0 n0 E H locs cells slots lsr h1 h2 hP hS hL (zok_tl hst) hls
  · exact kf (hiff.mp g) p e R s m args below meth c Z base D I k0 n0 E H locs cells slots lsr h1 h2 hP hS hL (zok_tl hst) hls

-- icmp ne: ¬ x = y / x = y
theorem z_icmp_ne {x y : Int} {off : Int} {tgt : Nat} (hd : decode (zb M) pc = .ok (.if_icmp .ne off, 3)) (ht : (pc : Int) + off = (tgt : Int)) (kt : ¬ x = y → zW X l M B1 B2 Q tgt ls st sh h) (kf : x = y → zW X l M B1 B2 Q (pc + 3) ls st sh h) : zW X l M B1 B2 Q pc ls (zi y :: zi x :: st) sh h := by
  intro p e R s m args below meth c Z base D I k0 n0 E H locs cells slots lsr h1 h2 hP hS hL hst hls
  have hy : r32 y := zok_hd hst
  have hx : r32 x := zok_hd (zok_tl hst)
  have hiff := ii_eq hx hy
  skip
  refine lv_icmp_ne E.1.1 E.1.2.1 hd ht (fun g => ?_) (fun g => ?_)
  · exact kt (fun q => g (hiff.mpr q)) p e R s m args below meth c Z base D I k0 n0 E H locs cells slots lsr h1 h2 hP hS hL (zok_tl (zok_tl hst)) hls
  · exact kf (hiff.mp g) p e R s m args below meth c Z base D I k0 n0 E H locs cells slots lsr h1 h2 hP hS hL (zok_tl (zok_tl hst)) hls

-- if lt: x < 0 / ¬ x < 0
theorem z_if_lt {x : Int} {off : Int} {tgt : Nat} (hd : decode (zb M) pc = .ok (.ifCond .lt off, 3)) (ht : (pc : Int) + off = (tgt : Int)) (kt : x < 0 → zW X l M B1 B2 Q tgt ls st sh h) (kf : ¬ x < 0 → zW X l M B1 B2 Q (pc + 3) ls st sh h) : zW X l M B1 B2 Q pc ls (zi x :: st) sh h := by
  intro p e R s m args below meth c Z base D I k0 n0 E H locs cells slots lsr h1 h2 hP hS hL hst hls
  have hx : r32 x := zok_hd hst
  have hiff := ii_lt hx r32_0
  rw [← i0] at hiff
  refine lv_if_lt E.1.1 E.1.2.1 hd ht (fun g => ?_) (fun g => ?_)
  · exact kt (hiff.mp g) p e R s m args below meth c Z base D I k0 n0 E H locs cells slots lsr h1 h2 hP hS hL (zok_tl hst) hls
  · exact kf (fun q => g (hiff.mpr q)) p e R s m args below meth c Z base D I k0 n0 E H locs cells slots lsr h1 h2 hP hS hL (zok_tl hst) hls

-- icmp lt: x < y / ¬ x < y
theorem z_icmp_lt {x y : Int} {off : Int} {tgt : Nat} (hd : decode (zb M) pc = .ok (.if_icmp .lt off, 3)) (ht : (pc : Int) + off = (tgt : Int)) (kt : x < y → zW X l M B1 B2 Q tgt ls st sh h) (kf : ¬ x < y → zW X l M B1 B2 Q (pc + 3) ls st sh h) : zW X l M B1 B2 Q pc ls (zi y :: zi x :: st) sh h := by
  intro p e R s m args below meth c Z base D I k0 n0 E H locs cells slots lsr h1 h2 hP hS hL hst hls
  have hy : r32 y := zok_hd hst
  have hx : r32 x := zok_hd (zok_tl hst)
  have hiff := ii_lt hx hy
  skip
  refine lv_icmp_lt E.1.1 E.1.2.1 hd ht (fun g => ?_) (fun g => ?_)
  · exact kt (hiff.mp g) p e R s m args below meth c Z base D I k0 n0 E H locs cells slots lsr h1 h2 hP hS hL (zok_tl (zok_tl hst)) hls
  · exact kf (fun q => g (hiff.mpr q)) p e R s m args below meth c Z base D I k0 n0 E H locs cells slots lsr h1 h2 hP hS hL (zok_tl (zok_tl hst)) hls

-- if ge: 0 ≤ x / ¬ 0 ≤ x
theorem z_if_ge {x : Int} {off : Int} {tgt : Nat} (hd : decode (zb M) pc = .ok (.ifCond .ge off, 3)) (ht : (pc : Int) + off = (tgt : Int)) (kt : 0 ≤ x → zW X l M B1 B2 Q tgt ls st sh h) (kf : ¬ 0 ≤ x → zW X l M B1 B2 Q (pc + 3) ls st sh h) : zW X l M B1 B2 Q pc ls (zi x :: st) sh h := by
  intro p e R s m args below meth c Z base D I k0 n0 E H locs cells slots lsr h1 h2 hP hS hL hst hls
  have hx : r32 x := zok_hd hst
  have hiff := ii_le r32_0 hx
  rw [← i0] at hiff
  refine lv_if_ge E.1.1 E.1.2.1 hd ht (fun g => ?_) (fun g => ?_)
  · exact kt (hiff.mp g) p e R s m args below meth c Z base D I k0 n0 E H locs cells slots lsr h1 h2 hP hS hL (zok_tl hst) hls
  · exact kf (fun q => g (hiff.mpr q)) p e R s m args below meth c Z base D I k0 n0 E H locs cells slots lsr h1 h2 hP hS hL (zok_tl hst) hls

-- icmp ge: y ≤ x / ¬ y ≤ x
theorem z_icmp_ge {x y : Int} {off : Int} {tgt : Nat} (hd : decode (zb M) pc = .ok (.if_icmp .ge off, 3)) (ht : (pc : Int) + off = (tgt : Int)) (kt : y ≤ x → zW X l M B1 B2 Q tgt ls st sh h) (kf : ¬ y ≤ x → zW X l M B1 B2 Q (pc + 3) ls st sh h) : zW X l M B1 B2 Q pc ls (zi y :: zi x :: st) sh h := by
  intro p e R s m args below meth c Z base D I k0 n0 E H locs cells slots lsr h1 h2 hP hS hL hst hls
  have hy : r32 y := zok_hd hst
  have hx : r32 x := zok_hd (zok_tl hst)
  have hiff := ii_le hy hx
  skip
  refine lv_icmp_ge E.1.1 E.1.2.1 hd ht (fun g => ?_) (fun g => ?_)
  · exact kt (hiff.mp g) p e R s m args below meth c Z base D I k0 n0 E H locs cells slots lsr h1 h2 hP hS hL (zok_tl (zok_tl hst)) hls
  · exact kf (fun q => g (hiff.mpr q)) p e R s m args below meth c Z base D I k0 n0 E H locs cells slots lsr h1 h2 hP hS hL (zok_tl (zok_tl hst)) hls

-- if gt: 0 < x / ¬ 0 < x
theorem z_if_gt {x : Int} {off : Int} {tgt : Nat} (hd : decode (zb M) pc = .ok (.ifCond .gt off, 3)) (ht : (pc : Int) + off = (tgt : Int)) (kt : 0 < x → zW X l M B1 B2 Q tgt ls st sh h) (kf : ¬ 0 < x → zW X l M B1 B2 Q (pc + 3) ls st sh h) : zW X l M B1 B2 Q pc ls (zi x :: st) sh h := by
  intro p e R s m args below meth c Z base D I k0 n0 E H locs cells slots lsr h1 h2 hP hS hL hst hls
  have hx : r32 x := zok_hd hst
  have hiff := ii_lt r32_0 hx
  rw [← i0] at hiff
  refine lv_if_gt E.1.1 E.1.2.1 hd ht (fun g => ?_) (fun g => ?_)
  · exact kt (hiff.mp g) p e R s m args below meth c Z base D I k0 n0 E H locs cells slots lsr h1 h2 hP hS hL (zok_tl hst) hls
  · exact kf (fun q => g (hiff.mpr q)) p e R s m args below meth c Z base D I k0 n0 E H locs cells slots lsr h1 h2 hP hS hL (zok_tl hst) hls

-- icmp gt: y < x / ¬ y < x
theorem z_icmp_gt {x y : Int} {off : Int} {tgt : Nat} (hd : decode (zb M) pc = .ok (.if_icmp .gt off, 3)) (ht : (pc : Int) + off = (tgt : Int)) (kt : y < x → zW X l M B1 B2 Q tgt ls st sh h) (kf : ¬ y < x → zW X l M B1 B2 Q (pc + 3) ls st sh h) : zW X l M B1 B2 Q pc ls (zi y :: zi x :: st) sh h := by
  intro p e R s m args below meth c Z base D I k0 n0 E H locs cells slots lsr h1 h2 hP hS hL hst hls
  have hy : r32 y := zok_hd hst
  have hx : r32 x := zok_hd (zok_tl hst)
  have hiff := ii_lt hy hx
  skip
  refine lv_icmp_gt E.1.1 E.1.2.1 hd ht (fun g => ?_) (fun g => ?_)
  · exact kt (hiff.mp g) p e R s m args below meth c Z base D I k0 n0 E H locs cells slots lsr h1 h2 hP hS hL (zok_tl (zok_tl hst)) hls
  · exact kf (fun q => g (hiff.mpr q)) p e R s m args below meth c Z base D I k0 n0 E H locs cells slots lsr h1 h2 hP hS hL (zok_tl (zok_tl hst)) hls

-- if le: x ≤ 0 / ¬ x ≤ 0
theorem z_if_le {x : Int} {off : Int} {tgt : Nat} (hd : decode (zb M) pc = .ok (.ifCond .le off, 3)) (ht : (pc : Int) + off = (tgt : Int)) (kt : x ≤ 0 → zW X l M B1 B2 Q tgt ls st sh h) (kf : ¬ x ≤ 0 → zW X l M B1 B2 Q (pc + 3) ls st sh h) : zW X l M B1 B2 Q pc ls (zi x :: st) sh h := by
  intro p e R s m args below meth c Z base D I k0 n0 E H locs cells slots lsr h1 h2 hP hS hL hst hls
  have hx : r32 x := zok_hd hst
  have hiff := ii_le hx r32_0
  rw [← i0] at hiff
  refine lv_if_le E.1.1 E.1.2.1 hd ht (fun g => ?_) (fun g => ?_)
  · exact kt (hiff.mp g) p e R s m args below meth c Z base D I k0 n0 E H locs cells slots lsr h1 h2 hP hS hL (zok_tl hst) hls
  · exact kf (fun q => g (hiff.mpr q)) p e R s m args below meth c Z base D I k0 n0 E H locs cells slots lsr h1 h2 hP hS hL (zok_tl hst) hls

-- icmp le: x ≤ y / ¬ x ≤ y
theorem z_icmp_le {x y : Int} {off : Int} {tgt : Nat} (hd : decode (zb M) pc = .ok (.if_icmp .le off, 3)) (ht : (pc : Int) + off = (tgt : Int)) (kt : x ≤ y → zW X l M B1 B2 Q tgt ls st sh h) (kf : ¬ x ≤ y → zW X l M B1 B2 Q (pc + 3) ls st sh h) : zW X l M B1 B2 Q pc ls (zi y :: zi x :: st) sh h := by
  intro p e R s m args below meth c Z base D I k0 n0 E H locs cells slots lsr h1 h2 hP hS hL hst hls
  have hy : r32 y := zok_hd hst
  have hx : r32 x := zok_hd (zok_tl hst)
  have hiff := ii_le hx hy
  skip
  refine lv_icmp_le E.1.1 E.1.2.1 hd ht (fun g => ?_) (fun g => ?_)
  · exact kt (hiff.mp g) p e R s m args below meth c Z base D I k0 n0 E H locs cells slots lsr h1 h2 hP hS hL (zok_tl (zok_tl hst)) hls
  · exact kf (fun q => g (hiff.mpr q)) p e R s m args below meth c Z base D I k0 n0 E H locs cells slots lsr h1 h2 hP hS hL (zok_tl (zok_tl hst)) hls

theorem z_tsout {x dflt lo hi : Int} {offs : Array Int} {len tgt : Nat} (hd : decode (zb M) pc = .ok (.tableswitch dflt lo hi offs, len)) (hx : x < lo ∨ hi < x) (ht : (pc : Int) + dflt = (tgt : Int)) (k : zW X l M B1 B2 Q tgt ls st sh h) : zW X l M B1 B2 Q pc ls (zi x :: st) sh h := by
  intro p e R s m args below meth c Z base D I k0 n0 E H locs cells slots lsr h1 h2 hP hS hL hst hls
  have hr : r32 x := zok_hd hst
  exact lv_tableOut E.1.1 E.1.2.1 hd (by rw [of_toInt hr]; exact hx) ht (k p e R s m args below meth c Z base D I k0 n0 E H locs cells slots lsr h1 h2 hP hS hL (zok_tl hst) hls)
theorem z_tsin {x dflt lo hi off : Int} {offs : Array Int} {len tgt : Nat} (hd : decode (zb M) pc = .ok (.tableswitch dflt lo hi offs, len)) (h3 : lo ≤ x) (h4 : x ≤ hi) (ho : offs[(x - lo).toNat]? = some off) (ht : (pc : Int) + off = (tgt : Int)) (k : zW X l M B1 B2 Q tgt ls st sh h) : zW X l M B1 B2 Q pc ls (zi x :: st) sh h := by
  intro p e R s m args below meth c Z base D I k0 n0 E H locs cells slots lsr h1 h2 hP hS hL hst hls
  have hr : r32 x := zok_hd hst
  exact lv_tableIn E.1.1 E.1.2.1 hd (by rw [of_toInt hr]; omega) (by rw [of_toInt hr]; omega) (by rw [of_toInt hr]; exact ho) ht (k p e R s m args below meth c Z base D I k0 n0 E H locs cells slots lsr h1 h2 hP hS hL (zok_tl hst) hls)
theorem z_lsw {x dflt off : Int} {ps : Array (Int × Int)} {len tgt : Nat} (hd : decode (zb M) pc = .ok (.lookupswitch dflt ps, len)) (hp : (ps.toList.zip (ps.toList.drop 1)).all (fun (a, next) => a.1 < next.1) = true) (ho : Op.lookupswitch.offset ps.toList dflt x = off) (ht : (pc : Int) + off = (tgt : Int)) (k : zW X l M B1 B2 Q tgt ls st sh h) : zW X l M B1 B2 Q pc ls (zi x :: st) sh h := by
  intro p e R s m args below meth c Z base D I k0 n0 E H locs cells slots lsr h1 h2 hP hS hL hst hls
  have hr : r32 x := zok_hd hst
  exact lv_lookup E.1.1 E.1.2.1 hd hp (by rw [of_toInt hr]; exact ho) ht (k p e R s m args below meth c Z base D I k0 n0 E H locs cells slots lsr h1 h2 hP hS hL (zok_tl hst) hls)
theorem z_ret {v : Option zV} (hd : decode (zb M) pc = .ok (zrti v, 1)) (hf : zfit (zrt M) v) (hb1 : sh.1.length = B1) (hb2 : ztot sh = B2) (hst : st = v.toList) (hq : Q v sh h) : zW X l M B1 B2 Q pc ls st sh h := by
  intro p e R s m args below meth c Z base D I k0 n0 E H locs cells slots lsr h1 h2 hP hS hL hok hls
  have hv : zokO v := by
    cases v with
    | none => trivial
    | some v => exact hok v (by rw [hst]; simp)
  have hm : st.map (zc base) = (v.map (zc base)).toList := by rw [hst]; cases v <;> rfl
  rw [hm]
  exact E.2.2.2.2.2.2 pc lsr H locs cells slots v sh h hd hf hv hq hb1 hb2 h1 h2 hP hS
end Z1
