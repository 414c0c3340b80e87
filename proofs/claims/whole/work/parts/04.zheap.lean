/-! Rows of the heap, of calls, of a method's start. -/
theorem zi_in {i : Int} {n : Nat} (hr : r32 i) (h0 : 0 ≤ i) (h1 : i < n) : vp_in (Int32.ofInt i) n := by
  rw [vp_in_iff, of_toInt hr]
  exact ⟨h0, h1⟩
theorem zi_clamp {i : Int} (hr : r32 i) : (Int32.ofInt i).toNatClampNeg = i.toNat := by
  have h1 : (Int32.ofInt i).toNatClampNeg = (Int32.ofInt i).toInt.toNat := rfl
  rw [h1, of_toInt hr]
def zCl (ci : Nat) (C : String) (T : u_T) (N : Nat) : Prop := zcl[ci]? = some (C, T, N) ∧ ci < 100 ∧ (∀ w ∈ u_ws C T N, w ∈ zT) ∧ (∀ k, k < N → parseFieldDescriptor (T k).2.2.1 = some (zty ci k)) ∧ (∀ a, a < N → ∀ b, b < N → a ≠ b → (T a).2.1 ≠ (T b).2.1) ∧ Cond.instantiable C N ∈ zT ∧ Cond.initialized C ∈ zT
def zFL (own : String) (idx ci k : Nat) (ty : FieldType) (fin : Bool) : Prop := ∃ (C : String) (T : u_T) (N : Nat), zCl ci C T N ∧ k < N ∧ Cond.fieldLink own idx (T k).1 (T k).2.1 (T k).2.2.1 ∈ zT ∧ zty ci k = ty ∧ (T k).2.2.2 = fin ∧ (fin = false ∨ (T k).1 = own ∨ True)
def zFF (own : String) (idx ci k : Nat) (ty : FieldType) : Prop := ∃ (C : String) (T : u_T) (N : Nat), zCl ci C T N ∧ k < N ∧ Cond.fieldLink own idx (T k).1 (T k).2.1 (T k).2.2.1 ∈ zT ∧ zty ci k = ty ∧ (T k).2.2.2 = true ∧ (T k).1 = own
theorem zce_obj {base : Nat} {I : zI} {ci n : Nat} {f g : Int → Int} (h : ci < 100) : zce base I (ci, n) f g = .inr (ci, (List.range n).map (fun k => zfv base (zty ci k) (f k) (g k))) := by
  unfold zce
  simp only
  rw [if_neg (by omega), if_neg (by omega), if_neg (by omega), if_neg (by omega)]
def zval (ty : FieldType) (x y : Int) : zV := match ty with
  | .int => zi x
  | .boolean => zi x
  | .long => zl x
  | _ => zr y
theorem zc_val (base : Nat) (ty : FieldType) (x y : Int) : zc base (zval ty x y) = zfv base ty x y := by
  cases ty <;> rfl
theorem zval_ok {ty : FieldType} {x y : Int} (h : r32 x) : zok (zval ty x y) := by
  cases ty <;> first | exact h | exact trivial | (show r64 x; unfold r32 at h; unfold r64; omega)
theorem zup_32 {h : zH} {r k v : Int} (hh : ∀ a b, r32 (h a b)) (hv : r32 v) : ∀ a b, r32 (zup h r k v a b) := by
  intro a b
  unfold zup
  split
  · exact hv
  · exact hh a b
theorem zup_off {h : zH} {r k v : Int} : ∀ a, a ≠ r → zup h r k v a = h a := by
  intro a ha
  funext b
  exact zup_ne (fun q => ha q.1)
section Z2
variable {X : State → Nat → Prop} {l : Launch} {M : zMd} {B1 B2 : Nat} {Q : zQt} {pc : Nat} {ls : List (Option zV)} {st : List zV} {sh : zS} {h : zH}
theorem z_get0 {idx ci k n : Nat} {ty : FieldType} {fin : Bool} {r : Int} (hf : zFL (zy M).cls idx ci k ty fin) (hd : decode (zb M) pc = .ok (.getfield idx, 3)) (hs : zsh sh r = some (ci, n)) (hk : k < n) (K : zW X l M B1 B2 Q (pc + 3) ls (zval ty (h r k) (sh.2 r k) :: st) sh h) : zW X l M B1 B2 Q pc ls (zr r :: st) sh h := by
  intro p e R s m args below meth c Z base D I k0 n0 E H locs cells slots lsr h1 h2 hP hS hL hst hls
  obtain ⟨C, T, N, hc, hkN, hlink, hty, -⟩ := hf
  subst hty
  have K := K p e R s m args below meth c Z base D I k0 n0 E H locs cells slots lsr h1 h2 hP hS hL (zok_cons (zval_ok (hP.2 r k)) (zok_tl hst)) hls
  have hw := zws_sh (base := base) (I := I) (h := h) hs
  rw [zce_obj hc.2.1] at hw
  have hz : zc base (zr r) = .ref (base + (r.toNat - 1)) := zrf_pos (zsh_spec hs).1
  simp only [List.map_cons, hz, zc_val] at K ⊢
  exact va_get (C := C) (T := T) (N := N) (D := D) E.1.1 E.1.2.1 E.1.2.2.2.2 hc.2.2.1 E.1.2.2.2.1 E.2.1.1 hP.1 (r.toNat - 1) hw hc.1 k hkN (E.1.2.2.2.2 _ hlink) (fun _ h9 => h9) (v := zfv base (zty ci k) (h r k) (sh.2 r k)) (by simp [hk]) hd K
theorem z_geti {idx ci k n : Nat} {fin : Bool} {r v : Int} (hf : zFL (zy M).cls idx ci k .int fin) (hd : decode (zb M) pc = .ok (.getfield idx, 3)) (hs : zsh sh r = some (ci, n)) (hk : k < n) (hv : h r k = v) (K : zW X l M B1 B2 Q (pc + 3) ls (zi v :: st) sh h) : zW X l M B1 B2 Q pc ls (zr r :: st) sh h := by
  subst hv
  exact z_get0 hf hd hs hk K
theorem z_getz {idx ci k n : Nat} {fin : Bool} {r v : Int} (hf : zFL (zy M).cls idx ci k .boolean fin) (hd : decode (zb M) pc = .ok (.getfield idx, 3)) (hs : zsh sh r = some (ci, n)) (hk : k < n) (hv : h r k = v) (K : zW X l M B1 B2 Q (pc + 3) ls (zi v :: st) sh h) : zW X l M B1 B2 Q pc ls (zr r :: st) sh h := by
  subst hv
  exact z_get0 hf hd hs hk K
theorem z_getl {idx ci k n : Nat} {fin : Bool} {r v : Int} (hf : zFL (zy M).cls idx ci k .long fin) (hd : decode (zb M) pc = .ok (.getfield idx, 3)) (hs : zsh sh r = some (ci, n)) (hk : k < n) (hv : h r k = v) (K : zW X l M B1 B2 Q (pc + 3) ls (zl v :: st) sh h) : zW X l M B1 B2 Q pc ls (zr r :: st) sh h := by
  subst hv
  exact z_get0 hf hd hs hk K
theorem z_geta {idx ci k n : Nat} {t : FieldType} {fin : Bool} {r v : Int} (hf : zFL (zy M).cls idx ci k (.array t) fin) (hd : decode (zb M) pc = .ok (.getfield idx, 3)) (hs : zsh sh r = some (ci, n)) (hk : k < n) (hv : sh.2 r k = v) (K : zW X l M B1 B2 Q (pc + 3) ls (zr v :: st) sh h) : zW X l M B1 B2 Q pc ls (zr r :: st) sh h := by
  subst hv
  exact z_get0 hf hd hs hk K
theorem z_geto {idx ci k n : Nat} {t : String} {fin : Bool} {r v : Int} (hf : zFL (zy M).cls idx ci k (.object t) fin) (hd : decode (zb M) pc = .ok (.getfield idx, 3)) (hs : zsh sh r = some (ci, n)) (hk : k < n) (hv : sh.2 r k = v) (K : zW X l M B1 B2 Q (pc + 3) ls (zr v :: st) sh h) : zW X l M B1 B2 Q pc ls (zr r :: st) sh h := by
  subst hv
  exact z_get0 hf hd hs hk K
/-- what a field of a number's type can hold -/
def zfits (ty : FieldType) (v : Int) : Prop := match ty with
  | .int => True
  | .boolean => v = 0 ∨ v = 1
  | .long => r32 v
  | _ => False
def zref (ty : FieldType) : Prop := match ty with
  | .object _ => True
  | .array _ => True
  | _ => False
theorem zb0 : narrow .boolean (.int (Int32.ofInt 0)) = .int (Int32.ofInt 0) ∧ fits .boolean (.int (Int32.ofInt 0)) = true := ⟨by decide, by decide⟩
theorem zb1 : narrow .boolean (.int (Int32.ofInt 1)) = .int (Int32.ofInt 1) ∧ fits .boolean (.int (Int32.ofInt 1)) = true := ⟨by decide, by decide⟩
theorem zfits_ok {base : Nat} {ty : FieldType} {v y : Int} (h : zfits ty v) (hz : zok (zval ty v y)) : narrow ty (zfv base ty v y) = zfv base ty v y ∧ fits ty (zfv base ty v y) = true ∧ r32 v := by
  cases ty <;> first
    | exact h.elim
    | exact ⟨rfl, rfl, hz⟩
    | exact ⟨rfl, rfl, h⟩
    | exact (h.elim (fun q => by subst q; exact ⟨zb0.1, zb0.2, hz⟩) (fun q => by subst q; exact ⟨zb1.1, zb1.2, hz⟩))
theorem zref_ok {base : Nat} {ty : FieldType} {v y : Int} (h : zref ty) : narrow ty (zfv base ty v y) = zfv base ty v y ∧ fits ty (zfv base ty v y) = true := by
  cases ty <;> first
    | exact h.elim
    | (refine ⟨?_, ?_⟩
       · show narrow _ (zrf base y) = zrf base y
         unfold zrf
         split <;> rfl
       · show fits _ (zrf base y) = true
         unfold zrf
         split <;> rfl)
theorem zfs_set {base ci n k : Nat} {f f' g g' : Int → Int} (hk : k < n) (hf : ∀ j : Nat, j ≠ k → f' j = f j) (hg : ∀ j : Nat, j ≠ k → g' j = g j) : ((List.range n).map (fun j : Nat => zfv base (zty ci j) (f j) (g j))).set k (zfv base (zty ci k) (f' k) (g' k)) = (List.range n).map (fun j : Nat => zfv base (zty ci j) (f' j) (g' j)) := by
  apply List.ext_getElem?
  intro i
  by_cases hi : i = k
  · subst hi
    rw [List.getElem?_set_self (by simpa using hk)]
    simp [hk]
  · rw [List.getElem?_set_ne (Ne.symm hi)]
    by_cases hl : i < n
    · simp [hl, hf i hi, hg i hi]
    · simp [hl]
theorem zup_k {h : zH} {r v : Int} {k : Nat} : ∀ j : Nat, j ≠ k → zup h r k v r j = h r j := fun j hj => zup_ne (fun q => hj (by have := q.2; omega))
theorem zfv_i {base : Nat} {ty : FieldType} {v y y' : Int} (h : zfits ty v) : zfv base ty v y = zfv base ty v y' := by
  cases ty <;> first | exact h.elim | rfl
theorem zfv_r {base : Nat} {ty : FieldType} {v v' y : Int} (h : zref ty) : zfv base ty v y = zfv base ty v' y := by
  cases ty <;> first | exact h.elim | rfl
theorem z_put0 {idx ci k n : Nat} {ty : FieldType} {r v y : Int} (hf : zFL (zy M).cls idx ci k ty false) (hd : decode (zb M) pc = .ok (.putfield idx, 3)) (hs : zsh sh r = some (ci, n)) (hk : k < n) (hft : zfits ty v) (K : zW X l M B1 B2 Q (pc + 3) ls st sh (zup h r k v)) : zW X l M B1 B2 Q pc ls (zval ty v y :: zr r :: st) sh h := by
  intro p e R s m args below meth c Z base D I k0 n0 E H locs cells slots lsr h1 h2 hP hS hL hst hls
  obtain ⟨C, T, N, hc, hkN, hlink, hty, hfin, -⟩ := hf
  subst hty
  have hw := zws_sh (base := base) (I := I) (h := h) hs
  rw [zce_obj hc.2.1] at hw
  have hz : zc base (zr r) = .ref (base + (r.toNat - 1)) := zrf_pos (zsh_spec hs).1
  obtain ⟨f1, f2, f3⟩ := zfits_ok (base := base) hft (zok_hd hst)
  simp only [List.map_cons, hz, zc_val]
  refine va_put (C := C) (T := T) (N := N) (D := D) E.1.1 E.1.2.1 E.1.2.2.2.2 hc.2.2.1 (zty ci) hc.2.2.2.1 hc.2.2.2.2.1 E.1.2.2.2.1 E.2.1.1 hP.1 (zD base I sh h) hS (r.toNat - 1) hw hc.1 k hkN (E.1.2.2.2.2 _ hlink) (fun _ h9 => h9) hfin (hc.2.2.2.1 k hkN) f1 f2 (by simpa using hk) hd fun H9 locs9 hP9 hD9 hS9 => ?_
  rw [zws_set (h' := zup h r k v) (g' := sh.2) hs (by
    rw [zce_obj hc.2.1, ← zfs_set (f := h r) (f' := zup h r k v r) (g := sh.2 r) (g' := sh.2 r) hk zup_k (fun _ _ => rfl), zup_same, zfv_i hft]) zup_off (fun _ _ => rfl)] at hP9
  exact K p e R s m args below meth c Z base D I k0 n0 E H9 locs9 cells slots lsr h1 h2 ⟨hP9, zup_32 hP.2 f3⟩ hS9 hL (zok_tl (zok_tl hst)) hls
theorem z_putr0 {idx ci k n : Nat} {ty : FieldType} {r v y : Int} (hf : zFL (zy M).cls idx ci k ty false) (hd : decode (zb M) pc = .ok (.putfield idx, 3)) (hs : zsh sh r = some (ci, n)) (hk : k < n) (hft : zref ty) (K : zW X l M B1 B2 Q (pc + 3) ls st (sh.1, zup sh.2 r k y) h) : zW X l M B1 B2 Q pc ls (zval ty v y :: zr r :: st) sh h := by
  intro p e R s m args below meth c Z base D I k0 n0 E H locs cells slots lsr h1 h2 hP hS hL hst hls
  obtain ⟨C, T, N, hc, hkN, hlink, hty, hfin, -⟩ := hf
  subst hty
  have hw := zws_sh (base := base) (I := I) (h := h) hs
  rw [zce_obj hc.2.1] at hw
  have hz : zc base (zr r) = .ref (base + (r.toNat - 1)) := zrf_pos (zsh_spec hs).1
  obtain ⟨f1, f2⟩ := zref_ok (base := base) (v := v) (y := y) hft
  simp only [List.map_cons, hz, zc_val]
  refine va_put (C := C) (T := T) (N := N) (D := D) E.1.1 E.1.2.1 E.1.2.2.2.2 hc.2.2.1 (zty ci) hc.2.2.2.1 hc.2.2.2.2.1 E.1.2.2.2.1 E.2.1.1 hP.1 (zD base I sh h) hS (r.toNat - 1) hw hc.1 k hkN (E.1.2.2.2.2 _ hlink) (fun _ h9 => h9) hfin (hc.2.2.2.1 k hkN) f1 f2 (by simpa using hk) hd fun H9 locs9 hP9 hD9 hS9 => ?_
  rw [zws_set (h' := h) (g' := zup sh.2 r k y) hs (by
    rw [zce_obj hc.2.1, ← zfs_set (f := h r) (f' := h r) (g := sh.2 r) (g' := zup sh.2 r k y r) hk (fun _ _ => rfl) zup_k, zup_same, zfv_r hft]) (fun _ _ => rfl) zup_off] at hP9
  exact K p e R s m args below meth c Z base D I k0 n0 E H9 locs9 cells slots lsr h1 h2 ⟨hP9, hP.2⟩ hS9 hL (zok_tl (zok_tl hst)) hls
theorem z_putFr0 {idx ci k n : Nat} {ty : FieldType} {r v y : Int} (hf : zFF (zy M).cls idx ci k ty) (hin : (zy M).name = "<init>") (hd : decode (zb M) pc = .ok (.putfield idx, 3)) (hs : zsh sh r = some (ci, n)) (hk : k < n) (hft : zref ty) (K : zW X l M B1 B2 Q (pc + 3) ls st (sh.1, zup sh.2 r k y) h) : zW X l M B1 B2 Q pc ls (zval ty v y :: zr r :: st) sh h := by
  intro p e R s m args below meth c Z base D I k0 n0 E H locs cells slots lsr h1 h2 hP hS hL hst hls
  obtain ⟨C, T, N, hc, hkN, hlink, hty, hfin, hown9⟩ := hf
  subst hty
  have hw := zws_sh (base := base) (I := I) (h := h) hs
  rw [zce_obj hc.2.1] at hw
  have hz : zc base (zr r) = .ref (base + (r.toNat - 1)) := zrf_pos (zsh_spec hs).1
  obtain ⟨f1, f2⟩ := zref_ok (base := base) (v := v) (y := y) hft
  simp only [List.map_cons, hz, zc_val]
  refine va_putF (C := C) (T := T) (N := N) (D := D) E.1.1 E.1.2.1 E.1.2.2.2.2 hc.2.2.1 (zty ci) hc.2.2.2.1 hc.2.2.2.2.1 E.1.2.2.2.1 E.2.1.1 hP.1 (zD base I sh h) hS (r.toNat - 1) hw hc.1 k hkN (E.1.2.2.2.2 _ hlink) (fun _ h9 => h9) hfin (E.2.2.2.2.2.1.1.trans hin) hown9 (hc.2.2.2.1 k hkN) f1 f2 (by simpa using hk) hd fun H9 locs9 hP9 hD9 hS9 => ?_
  rw [zws_set (h' := h) (g' := zup sh.2 r k y) hs (by
    rw [zce_obj hc.2.1, ← zfs_set (f := h r) (f' := h r) (g := sh.2 r) (g' := zup sh.2 r k y r) hk (fun _ _ => rfl) zup_k, zup_same, zfv_r hft]) (fun _ _ => rfl) zup_off] at hP9
  exact K p e R s m args below meth c Z base D I k0 n0 E H9 locs9 cells slots lsr h1 h2 ⟨hP9, hP.2⟩ hS9 hL (zok_tl (zok_tl hst)) hls
theorem z_puti {idx ci k n : Nat} {r v : Int} (hf : zFL (zy M).cls idx ci k .int false) (hd : decode (zb M) pc = .ok (.putfield idx, 3)) (hs : zsh sh r = some (ci, n)) (hk : k < n) (K : zW X l M B1 B2 Q (pc + 3) ls st sh (zup h r k v)) : zW X l M B1 B2 Q pc ls (zi v :: zr r :: st) sh h := z_put0 (v := v) (y := 0) hf hd hs hk trivial K
theorem z_putz {idx ci k n : Nat} {r v : Int} (hf : zFL (zy M).cls idx ci k .boolean false) (hd : decode (zb M) pc = .ok (.putfield idx, 3)) (hs : zsh sh r = some (ci, n)) (hk : k < n) (hv : v = 0 ∨ v = 1) (K : zW X l M B1 B2 Q (pc + 3) ls st sh (zup h r k v)) : zW X l M B1 B2 Q pc ls (zi v :: zr r :: st) sh h := z_put0 (v := v) (y := 0) hf hd hs hk hv K
theorem z_putl {idx ci k n : Nat} {r v : Int} (hf : zFL (zy M).cls idx ci k .long false) (hd : decode (zb M) pc = .ok (.putfield idx, 3)) (hs : zsh sh r = some (ci, n)) (hk : k < n) (hv : r32 v) (K : zW X l M B1 B2 Q (pc + 3) ls st sh (zup h r k v)) : zW X l M B1 B2 Q pc ls (zl v :: zr r :: st) sh h := z_put0 (v := v) (y := 0) hf hd hs hk hv K
theorem z_puto {idx ci k n : Nat} {r v : Int} {t : String} (hf : zFL (zy M).cls idx ci k (.object t) false) (hd : decode (zb M) pc = .ok (.putfield idx, 3)) (hs : zsh sh r = some (ci, n)) (hk : k < n) (K : zW X l M B1 B2 Q (pc + 3) ls st (sh.1, zup sh.2 r k v) h) : zW X l M B1 B2 Q pc ls (zr v :: zr r :: st) sh h := z_putr0 (v := 0) (y := v) hf hd hs hk trivial K
theorem z_putFa {idx ci k n : Nat} {r v : Int} {t : FieldType} (hf : zFF (zy M).cls idx ci k (.array t)) (hin : (zy M).name = "<init>") (hd : decode (zb M) pc = .ok (.putfield idx, 3)) (hs : zsh sh r = some (ci, n)) (hk : k < n) (K : zW X l M B1 B2 Q (pc + 3) ls st (sh.1, zup sh.2 r k v) h) : zW X l M B1 B2 Q pc ls (zr v :: zr r :: st) sh h := z_putFr0 (v := 0) (y := v) hf hin hd hs hk trivial K
theorem z_putFo {idx ci k n : Nat} {r v : Int} {t : String} (hf : zFF (zy M).cls idx ci k (.object t)) (hin : (zy M).name = "<init>") (hd : decode (zb M) pc = .ok (.putfield idx, 3)) (hs : zsh sh r = some (ci, n)) (hk : k < n) (K : zW X l M B1 B2 Q (pc + 3) ls st (sh.1, zup sh.2 r k v) h) : zW X l M B1 B2 Q pc ls (zr v :: zr r :: st) sh h := z_putFr0 (v := 0) (y := v) hf hin hd hs hk trivial K
/-! arrays -/
theorem zce_i {base : Nat} {I : zI} {n : Nat} {f g : Int → Int} : zce base I (100, n) f g = .inl (I 0, n, .inl (fun j => Int32.ofInt (f j))) := rfl
theorem zce_z {base : Nat} {I : zI} {n : Nat} {f g : Int → Int} : zce base I (101, n) f g = .inl (I 1, n, .inl (fun j => Int32.ofInt (f j))) := rfl
theorem zce_n {base : Nat} {I : zI} {n : Nat} {f g : Int → Int} : zce base I (102, n) f g = .inl (I 2, n, .inr (.inr (.inr (.inr (fun j => zopt base (g j)))))) := rfl
theorem zce_m {base : Nat} {I : zI} {n : Nat} {f g : Int → Int} : zce base I (103, n) f g = .inl (I 3, n, .inr (.inr (.inr (.inr (fun j => zopt base (g j)))))) := rfl
theorem z_iaload {n : Nat} {r i v : Int} (hd : decode (zb M) pc = .ok (.iaload, 1)) (hs : zsh sh r = some (100, n)) (g0 : 0 ≤ i) (g1 : i < n) (hv : h r i = v) (K : zW X l M B1 B2 Q (pc + 1) ls (zi v :: st) sh h) : zW X l M B1 B2 Q pc ls (zi i :: zr r :: st) sh h := by
  intro p e R s m args below meth c Z base D I k0 n0 E H locs cells slots lsr h1 h2 hP hS hL hst hls
  have hi : r32 i := zok_hd hst
  subst hv
  have K := K p e R s m args below meth c Z base D I k0 n0 E H locs cells slots lsr h1 h2 hP hS hL (zok_cons (hP.2 r i) (zok_tl (zok_tl hst))) hls
  have hw := zws_sh (base := base) (I := I) (h := h) hs
  rw [zce_i] at hw
  have hz : zc base (zr r) = .ref (base + (r.toNat - 1)) := zrf_pos (zsh_spec hs).1
  simp only [List.map_cons, hz] at K ⊢
  refine va_iald (D := D) E.1.1 E.1.2.1 E.2.1.1 hP.1 (r.toNat - 1) 0 hw rfl (zi_in hi g0 g1) hd ?_
  rw [zi_clamp hi, Int.toNat_of_nonneg g0]
  exact K
theorem z_baload {n : Nat} {r i v : Int} (hd : decode (zb M) pc = .ok (.baload, 1)) (hs : zsh sh r = some (101, n)) (g0 : 0 ≤ i) (g1 : i < n) (hv : h r i = v) (K : zW X l M B1 B2 Q (pc + 1) ls (zi v :: st) sh h) : zW X l M B1 B2 Q pc ls (zi i :: zr r :: st) sh h := by
  intro p e R s m args below meth c Z base D I k0 n0 E H locs cells slots lsr h1 h2 hP hS hL hst hls
  have hi : r32 i := zok_hd hst
  subst hv
  have K := K p e R s m args below meth c Z base D I k0 n0 E H locs cells slots lsr h1 h2 hP hS hL (zok_cons (hP.2 r i) (zok_tl (zok_tl hst))) hls
  have hw := zws_sh (base := base) (I := I) (h := h) hs
  rw [zce_z] at hw
  have hz : zc base (zr r) = .ref (base + (r.toNat - 1)) := zrf_pos (zsh_spec hs).1
  simp only [List.map_cons, hz] at K ⊢
  refine va_zald (D := D) E.1.1 E.1.2.1 E.2.1.1 hP.1 (r.toNat - 1) 1 hw rfl (zi_in hi g0 g1) hd ?_
  rw [zi_clamp hi, Int.toNat_of_nonneg g0]
  exact K
theorem z_aald {n kd t0 : Nat} {C : String} {r i v : Int} (hd : decode (zb M) pc = .ok (.aaload, 1)) (hkd : (kd = 102 ∧ t0 = 2 ∧ C = RX6) ∨ (kd = 103 ∧ t0 = 3 ∧ C = RX5)) (hs : zsh sh r = some (kd, n)) (g0 : 0 ≤ i) (g1 : i < n) (hv : sh.2 r i = v) (K : zW X l M B1 B2 Q (pc + 1) ls (zr v :: st) sh h) : zW X l M B1 B2 Q pc ls (zi i :: zr r :: st) sh h := by
  intro p e R s m args below meth c Z base D I k0 n0 E H locs cells slots lsr h1 h2 hP hS hL hst hls
  have hi : r32 i := zok_hd hst
  subst hv
  have K := K p e R s m args below meth c Z base D I k0 n0 E H locs cells slots lsr h1 h2 hP hS hL (zok_cons (v := zr (sh.2 r i)) trivial (zok_tl (zok_tl hst))) hls
  have hw := zws_sh (base := base) (I := I) (h := h) hs
  have hz : zc base (zr r) = .ref (base + (r.toNat - 1)) := zrf_pos (zsh_spec hs).1
  simp only [List.map_cons, hz] at K ⊢
  rcases hkd with ⟨rfl, rfl, rfl⟩ | ⟨rfl, rfl, rfl⟩
  · rw [zce_n] at hw
    refine va_aldq (D := D) (C := RX6) E.1.1 E.1.2.1 E.2.1.1 hP.1 (r.toNat - 1) 2 hw rfl (zi_in hi g0 g1) hd ?_
    rw [zi_clamp hi, Int.toNat_of_nonneg g0, zopt_rf]
    exact K
  · rw [zce_m] at hw
    refine va_aldq (D := D) (C := RX5) E.1.1 E.1.2.1 E.2.1.1 hP.1 (r.toNat - 1) 3 hw rfl (zi_in hi g0 g1) hd ?_
    rw [zi_clamp hi, Int.toNat_of_nonneg g0, zopt_rf]
    exact K
theorem z_naload {n : Nat} {r i v : Int} (hd : decode (zb M) pc = .ok (.aaload, 1)) (hs : zsh sh r = some (102, n)) (g0 : 0 ≤ i) (g1 : i < n) (hv : sh.2 r i = v) (K : zW X l M B1 B2 Q (pc + 1) ls (zr v :: st) sh h) : zW X l M B1 B2 Q pc ls (zi i :: zr r :: st) sh h := z_aald hd (Or.inl ⟨rfl, rfl, rfl⟩) hs g0 g1 hv K
theorem z_maload {n : Nat} {r i v : Int} (hd : decode (zb M) pc = .ok (.aaload, 1)) (hs : zsh sh r = some (103, n)) (g0 : 0 ≤ i) (g1 : i < n) (hv : sh.2 r i = v) (K : zW X l M B1 B2 Q (pc + 1) ls (zr v :: st) sh h) : zW X l M B1 B2 Q pc ls (zi i :: zr r :: st) sh h := z_aald hd (Or.inr ⟨rfl, rfl, rfl⟩) hs g0 g1 hv K
theorem zup_at {h : zH} {r i v : Int} {j : Nat} (g0 : 0 ≤ i) : (zup h r i v r j) = if j = i.toNat then v else h r j := by
  unfold zup
  by_cases hj : j = i.toNat
  · have : (j : Int) = i := by omega
    rw [if_pos ⟨rfl, this⟩, if_pos hj]
  · have : ¬ (j : Int) = i := by omega
    simp [this, hj]
theorem z_iastore {n : Nat} {r i v : Int} (hd : decode (zb M) pc = .ok (.iastore, 1)) (hs : zsh sh r = some (100, n)) (g0 : 0 ≤ i) (g1 : i < n) (K : zW X l M B1 B2 Q (pc + 1) ls st sh (zup h r i v)) : zW X l M B1 B2 Q pc ls (zi v :: zi i :: zr r :: st) sh h := by
  intro p e R s m args below meth c Z base D I k0 n0 E H locs cells slots lsr h1 h2 hP hS hL hst hls
  have hv : r32 v := zok_hd hst
  have hi : r32 i := zok_hd (zok_tl hst)
  have hw := zws_sh (base := base) (I := I) (h := h) hs
  rw [zce_i] at hw
  have hz : zc base (zr r) = .ref (base + (r.toNat - 1)) := zrf_pos (zsh_spec hs).1
  simp only [List.map_cons, hz]
  refine va_iast (D := D) E.1.1 E.1.2.1 E.2.1.1 hP.1 (zD base I sh h) hS (r.toNat - 1) 0 hw rfl (zi_in hi g0 g1) hd fun H9 locs9 hP9 hD9 hS9 => ?_
  rw [zws_set (h' := zup h r i v) (g' := sh.2) hs (by
    rw [zce_i, zi_clamp hi]
    refine congrArg (fun f => Sum.inl (I 0, n, Sum.inl f)) (funext fun j => ?_)
    rw [zup_at g0]
    unfold upd
    by_cases hj : j = i.toNat <;> simp [hj]) zup_off (fun _ _ => rfl)] at hP9
  exact K p e R s m args below meth c Z base D I k0 n0 E H9 locs9 cells slots lsr h1 h2 ⟨hP9, zup_32 hP.2 hv⟩ hS9 hL (zok_tl (zok_tl (zok_tl hst))) hls
theorem z_bastore {n : Nat} {r i v : Int} (hd : decode (zb M) pc = .ok (.bastore, 1)) (hs : zsh sh r = some (101, n)) (g0 : 0 ≤ i) (g1 : i < n) (g2 : v = 0 ∨ v = 1) (K : zW X l M B1 B2 Q (pc + 1) ls st sh (zup h r i v)) : zW X l M B1 B2 Q pc ls (zi v :: zi i :: zr r :: st) sh h := by
  intro p e R s m args below meth c Z base D I k0 n0 E H locs cells slots lsr h1 h2 hP hS hL hst hls
  have hv : r32 v := zok_hd hst
  have hi : r32 i := zok_hd (zok_tl hst)
  have hw := zws_sh (base := base) (I := I) (h := h) hs
  rw [zce_z] at hw
  have hz : zc base (zr r) = .ref (base + (r.toNat - 1)) := zrf_pos (zsh_spec hs).1
  simp only [List.map_cons, hz]
  refine va_zast (D := D) E.1.1 E.1.2.1 E.2.1.1 hP.1 (zD base I sh h) hS (r.toNat - 1) 1 hw rfl (zi_in hi g0 g1) hd fun H9 locs9 hP9 hD9 hS9 => ?_
  have hnr : vp_nar .boolean (Int32.ofInt v) = Int32.ofInt v := by rcases g2 with rfl | rfl <;> decide
  rw [hnr] at hP9
  rw [zws_set (h' := zup h r i v) (g' := sh.2) hs (by
    rw [zce_z, zi_clamp hi]
    refine congrArg (fun f => Sum.inl (I 1, n, Sum.inl f)) (funext fun j => ?_)
    rw [zup_at g0]
    unfold upd
    by_cases hj : j = i.toNat <;> simp [hj]) zup_off (fun _ _ => rfl)] at hP9
  exact K p e R s m args below meth c Z base D I k0 n0 E H9 locs9 cells slots lsr h1 h2 ⟨hP9, zup_32 hP.2 hv⟩ hS9 hL (zok_tl (zok_tl (zok_tl hst))) hls
theorem z_aast {n N ci kd : Nat} {r i v : Int} (hd : decode (zb M) pc = .ok (.aastore, 1)) (hkd : (kd = 102 ∧ ci = 5) ∨ (kd = 103 ∧ ci = 4)) (hs : zsh sh r = some (kd, n)) (g0 : 0 ≤ i) (g1 : i < n) (hv : zsh sh v = some (ci, N)) (K : zW X l M B1 B2 Q (pc + 1) ls st (sh.1, zup sh.2 r i v) h) : zW X l M B1 B2 Q pc ls (zr v :: zi i :: zr r :: st) sh h := by
  intro p e R s m args below meth c Z base D I k0 n0 E H locs cells slots lsr h1 h2 hP hS hL hst hls
  have hi : r32 i := zok_hd (zok_tl hst)
  have hw := zws_sh (base := base) (I := I) (h := h) hs
  have hwv := zws_sh (base := base) (I := I) (h := h) hv
  have hz : zc base (zr r) = .ref (base + (r.toNat - 1)) := zrf_pos (zsh_spec hs).1
  have hzv : zc base (zr v) = .ref (base + (v.toNat - 1)) := zrf_pos (zsh_spec hv).1
  have hvo : zopt base v = some (base + (v.toNat - 1)) := by
    unfold zopt zad
    rw [if_neg (by have := (zsh_spec hv).1; omega), if_pos (zsh_spec hv).1]
  simp only [List.map_cons, hz, hzv]
  rcases hkd with ⟨rfl, rfl⟩ | ⟨rfl, rfl⟩
  · rw [zce_n] at hw
    rw [zce_obj (by decide)] at hwv
    refine va_astq (D := D) (r := (RX6, TX6, 6)) E.1.1 E.1.2.1 E.2.1.1 hP.1 (zD base I sh h) hS (r.toNat - 1) 2 (v.toNat - 1) 5 hw rfl hwv rfl (zi_in hi g0 g1) hd fun H9 locs9 hP9 hD9 hS9 => ?_
    rw [zws_set (h' := h) (g' := zup sh.2 r i v) hs (by
      rw [zce_n, zi_clamp hi]
      refine congrArg (fun f => Sum.inl (I 2, n, Sum.inr (Sum.inr (Sum.inr (Sum.inr f))))) (funext fun j => ?_)
      rw [zup_at g0]
      unfold va_up
      by_cases hj : j = i.toNat <;> simp [hj, hvo]) (fun _ _ => rfl) zup_off] at hP9
    exact K p e R s m args below meth c Z base D I k0 n0 E H9 locs9 cells slots lsr h1 h2 ⟨hP9, hP.2⟩ hS9 hL (zok_tl (zok_tl (zok_tl hst))) hls
  · rw [zce_m] at hw
    rw [zce_obj (by decide)] at hwv
    refine va_astq (D := D) (r := (RX5, TX5, 3)) E.1.1 E.1.2.1 E.2.1.1 hP.1 (zD base I sh h) hS (r.toNat - 1) 3 (v.toNat - 1) 4 hw rfl hwv rfl (zi_in hi g0 g1) hd fun H9 locs9 hP9 hD9 hS9 => ?_
    rw [zws_set (h' := h) (g' := zup sh.2 r i v) hs (by
      rw [zce_m, zi_clamp hi]
      refine congrArg (fun f => Sum.inl (I 3, n, Sum.inr (Sum.inr (Sum.inr (Sum.inr f))))) (funext fun j => ?_)
      rw [zup_at g0]
      unfold va_up
      by_cases hj : j = i.toNat <;> simp [hj, hvo]) (fun _ _ => rfl) zup_off] at hP9
    exact K p e R s m args below meth c Z base D I k0 n0 E H9 locs9 cells slots lsr h1 h2 ⟨hP9, hP.2⟩ hS9 hL (zok_tl (zok_tl (zok_tl hst))) hls
theorem z_alen {n : Nat} {r : Int} (hd : decode (zb M) pc = .ok (.arraylength, 1)) (hs : zsh sh r = some (100, n)) (hn : n < 2147483648) (K : zW X l M B1 B2 Q (pc + 1) ls (zi n :: st) sh h) : zW X l M B1 B2 Q pc ls (zr r :: st) sh h := by
  intro p e R s m args below meth c Z base D I k0 n0 E H locs cells slots lsr h1 h2 hP hS hL hst hls
  have K := K p e R s m args below meth c Z base D I k0 n0 E H locs cells slots lsr h1 h2 hP hS hL (zok_cons (show r32 n by unfold r32; omega) (zok_tl hst)) hls
  have hw := zws_sh (base := base) (I := I) (h := h) hs
  rw [zce_i] at hw
  have hz : zc base (zr r) = .ref (base + (r.toNat - 1)) := zrf_pos (zsh_spec hs).1
  simp only [List.map_cons, hz] at K ⊢
  exact va_alen (D := D) E.1.1 E.1.2.1 E.2.1.1 hP.1 (r.toNat - 1) 0 hw rfl (v := Int32.ofInt n) (by apply Int32.toInt_inj.mp; rw [of_toInt (show r32 n by unfold r32; omega)]; exact nI_toInt (by omega)) hd K
end Z2
