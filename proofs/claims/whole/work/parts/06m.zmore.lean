/-! More rows: Math, arrays of references, the law's script. -/
section Z6
variable {X : State → Nat → Prop} {l : Launch} {M : zMd} {B1 B2 : Nat} {Q : zQt} {pc : Nat} {ls : List (Option zV)} {st : List zV} {sh : zS} {h : zH}
theorem z_mmax {idx : Nat} {x y : Int} (hk : Cond.static Lib.Math.max.name ∈ zT ∧ Cond.initialized "java/lang/Math" ∈ zT ∧ Cond.code Lib.Math.max.name Lib.Math.max.code 2 (some .int) ∈ zT) (hl : Cond.methodLink (zy M).cls idx Lib.Math.max.name ∈ zT) (hfr : 1 ≤ zfr M) (hlo : (st.map zcat).sum + 13 ≤ zlo M) (hb1 : sh.1.length ≤ B1) (hb2 : ztot sh ≤ B2) (hd : decode (zb M) pc = .ok (.invokestatic idx, 3)) (K : zW X l M B1 B2 Q (pc + 3) ls (zi (max x y) :: st) sh h) : zW X l M B1 B2 Q pc ls (zi y :: zi x :: st) sh h := by
  intro p e R s m args below meth c Z base D I k0 n0 E H locs cells slots lsr h1 h2 hP hS hL hst hls
  have hy : r32 y := zok_hd hst
  have hx : r32 x := zok_hd (zok_tl hst)
  have K := K p e R s m args below meth c Z base D I k0 n0 E H locs cells slots lsr h1 h2 hP hS hL (zok_cons (show r32 (max x y) by unfold r32 at *; omega) (zok_tl (zok_tl hst))) hls
  have hz : (if Int32.ofInt x < Int32.ofInt y then Int32.ofInt y else Int32.ofInt x) = Int32.ofInt (max x y) := by
    by_cases g : x < y
    · rw [if_pos ((ii_lt hx hy).mpr g)]; congr 1; omega
    · rw [if_neg (fun q => g ((ii_lt hx hy).mp q))]; congr 1; omega
  refine va_mmax E.1.1 E.1.2.1 (E.1.2.2.1.trans hL.2.1.symm) E.1.2.2.2.1 (E.1.2.2.2.2 _ hl) (E.1.2.2.2.2 _ hk.1) (E.1.2.2.2.2 _ hk.2.1) (E.1.2.2.2.2 _ hk.2.2) (Nat.le_trans hfr E.2.2.1.1) (by rw [zcat_sum]; exact Nat.le_trans hlo E.2.2.1.2) (by have := E.2.2.2.1.1; omega) (by have := E.2.2.2.1.2; omega) hd ?_
  rw [hz]
  exact K
theorem z_mmin {idx : Nat} {x y : Int} (hk : Cond.static Lib.Math.min.name ∈ zT ∧ Cond.initialized "java/lang/Math" ∈ zT ∧ Cond.code Lib.Math.min.name Lib.Math.min.code 2 (some .int) ∈ zT) (hl : Cond.methodLink (zy M).cls idx Lib.Math.min.name ∈ zT) (hfr : 1 ≤ zfr M) (hlo : (st.map zcat).sum + 13 ≤ zlo M) (hb1 : sh.1.length ≤ B1) (hb2 : ztot sh ≤ B2) (hd : decode (zb M) pc = .ok (.invokestatic idx, 3)) (K : zW X l M B1 B2 Q (pc + 3) ls (zi (min x y) :: st) sh h) : zW X l M B1 B2 Q pc ls (zi y :: zi x :: st) sh h := by
  intro p e R s m args below meth c Z base D I k0 n0 E H locs cells slots lsr h1 h2 hP hS hL hst hls
  have hy : r32 y := zok_hd hst
  have hx : r32 x := zok_hd (zok_tl hst)
  have K := K p e R s m args below meth c Z base D I k0 n0 E H locs cells slots lsr h1 h2 hP hS hL (zok_cons (show r32 (min x y) by unfold r32 at *; omega) (zok_tl (zok_tl hst))) hls
  have hz : (if Int32.ofInt y < Int32.ofInt x then Int32.ofInt y else Int32.ofInt x) = Int32.ofInt (min x y) := by
    by_cases g : y < x
    · rw [if_pos ((ii_lt hy hx).mpr g)]; congr 1; omega
    · rw [if_neg (fun q => g ((ii_lt hy hx).mp q))]; congr 1; omega
  refine va_mmin E.1.1 E.1.2.1 (E.1.2.2.1.trans hL.2.1.symm) E.1.2.2.2.1 (E.1.2.2.2.2 _ hl) (E.1.2.2.2.2 _ hk.1) (E.1.2.2.2.2 _ hk.2.1) (E.1.2.2.2.2 _ hk.2.2) (Nat.le_trans hfr E.2.2.1.1) (by rw [zcat_sum]; exact Nat.le_trans hlo E.2.2.1.2) (by have := E.2.2.2.1.1; omega) (by have := E.2.2.2.1.2; omega) hd ?_
  rw [hz]
  exact K
theorem z_newq {n : Int} {N idx kd t0 : Nat} {C : String} (hkd : (kd = 102 ∧ t0 = 2 ∧ C = RX6) ∨ (kd = 103 ∧ t0 = 3 ∧ C = RX5)) (hl : Cond.classLink (zy M).cls idx C ∈ zT) (hd : decode (zb M) pc = .ok (.anewarray idx, 3)) (hn : n = N) (hN : N < 100000) (hb1 : sh.1.length + 1 ≤ B1) (hb2 : ztot sh + N ≤ B2) (K : zW X l M B1 B2 Q (pc + 3) ls (zr ((sh.1.length : Int) + 1) :: st) (sh.1 ++ [(kd, N)], znw sh.2 ((sh.1.length : Int) + 1)) (znw h ((sh.1.length : Int) + 1))) : zW X l M B1 B2 Q pc ls (zi n :: st) sh h := by
  intro p e R s m args below meth c Z base D I k0 n0 E H locs cells slots lsr h1 h2 hP hS hL hst hls T9 hT9 X9
  have hsz := zsize X9 hT9 E.2.2.2.2.1 h1 hP hS
  revert T9
  show W p l e R s m args below meth c H locs cells slots Z (F0 m pc lsr ((zi n :: st).map (zc base)))
  have hr9 : r32 n := zok_hd hst
  have hcl : (Int32.ofInt n).toNatClampNeg = N := by rw [zi_clamp hr9]; omega
  have hover : va_AO C s := by rcases hkd with ⟨-, -, rfl⟩ | ⟨-, -, rfl⟩; exact E.2.1.2.2.1; exact E.2.1.2.2.2
  refine W.anew E.1.1 E.1.2.1 E.1.2.2.2.1 (E.1.2.2.2.2 _ hl) (va_AO.use hover) rfl hd rfl (by rw [i0, ii_lt hr9 r32_0]; omega) (by rw [hcl]; omega) (by have := E.2.2.2.1.1; omega) (by rw [hcl]; have := E.2.2.2.1.2; omega) fun cA kA comp f1 f2 f3 f4 => ?_
  rw [hcl]
  generalize hH1 : H.push ({ cls := cA, slots := Array.replicate N .null, vm := .none } : Cell) = H1
  have z1 : H1.size = H.size + 1 := by rw [← hH1, Array.size_push]
  have e1 : H1[H.size]? = some (arrV cA N (fun _ => .null)) := by rw [← hH1, Array.getElem?_push_size, ← arrV_new]
  have o1 : ∀ q : Nat, q < H.size → H1[q]? = H[q]? := fun q hq => by rw [← hH1, Array.getElem?_push, if_neg (Nat.ne_of_lt hq)]
  have hk : ∀ (k : Nat) (x : Nat × va_E), (zws base I sh h)[k]? = some x → H1[x.1]? = H[x.1]? := fun k x hx => o1 x.1 (hP.1 k x hx).lt
  have hP9 : va_P D zcl (zws base I sh h ++ [(base + sh.1.length, zce base I (kd, N) (fun _ => 0) (fun _ => 0))]) H1 := by
    refine (hP.1.kept hk).app (fun k x hx => ?_)
    have hz : k < 1 := (List.getElem?_eq_some_iff.mp hx).1
    rw [show k = 0 by omega] at hx
    cases hx
    rw [hsz] at e1
    rcases hkd with ⟨rfl, rfl, rfl⟩ | ⟨rfl, rfl, rfl⟩
    · have hcA : cA = I 2 := by
        obtain ⟨-, -, -, -, -, g4⟩ := (E.2.1.1.2 2 (I 2, .object RX6) rfl).2
        exact Option.some.inj (f1.symm.trans g4)
      subst hcA
      exact e1
    · have hcA : cA = I 3 := by
        obtain ⟨-, -, -, -, -, g4⟩ := (E.2.1.1.2 3 (I 3, .object RX5) rfl).2
        exact Option.some.inj (f1.symm.trans g4)
      subst hcA
      exact e1
  rw [zws_push (kd := (kd, N)) (h' := znw h ((sh.1.length : Int) + 1)) (g' := znw sh.2 ((sh.1.length : Int) + 1)) (by congr 1 <;> funext b <;> simp [znw]) znw_off znw_off] at hP9
  have hr : zc base (zr ((sh.1.length : Int) + 1)) = .ref (base + sh.1.length) := by
    show zrf base _ = _
    rw [zrf_pos (by omega)]
    congr 2
  have K := K p e R s m args below meth c Z base D I k0 n0 E H1 locs (cells + 1) (slots + N) lsr (by simp; omega) (by rw [ztot_app]; omega) ⟨hP9, znw_32 hP.2⟩ ⟨Nat.le_trans hS.1 (by omega), fun x h1 h2 => (o1 x (by have := hS.1; omega)).trans (hS.2.1 x h1 h2), hS.2.2⟩ hL (zok_cons (v := zr _) trivial (zok_tl hst)) hls
  simp only [List.map_cons, hr] at K
  rw [hsz]
  exact K
end Z6
/-- the law's script, outside the world -/
def zXs (b L : Nat) (xs : Nat → Int32) : State → Nat → Prop := fun s base => va_X b L xs s s.heap ∧ b < base ∧ base = s.heap.size
abbrev zsr (b : Nat) : Int := -((b : Int) + 1)
theorem zsr_ad (base b : Nat) : zrf base (zsr b) = .ref b := by
  unfold zrf zad zsr
  rw [if_neg (by omega), if_neg (by omega)]
  congr 1
section Z7
variable {b L : Nat} {xs : Nat → Int32} {l : Launch} {M : zMd} {B1 B2 : Nat} {Q : zQt} {pc : Nat} {ls : List (Option zV)} {st : List zV} {sh : zS} {h : zH}
theorem z_sld {i : Int} (hd : decode (zb M) pc = .ok (.iaload, 1)) (g0 : 0 ≤ i) (g1 : i < L) (K : zW (zXs b L xs) l M B1 B2 Q (pc + 1) ls (zi ((xs i.toNat).toInt) :: st) sh h) : zW (zXs b L xs) l M B1 B2 Q pc ls (zi i :: zr (zsr b) :: st) sh h := by
  intro p e R s m args below meth c Z base D I k0 n0 E H locs cells slots lsr h1 h2 hP hS hL hst hls
  have hi : r32 i := zok_hd hst
  have K := K p e R s m args below meth c Z base D I k0 n0 E H locs cells slots lsr h1 h2 hP hS hL (zok_cons (toInt_r _) (zok_tl (zok_tl hst))) hls
  have hz : zc base (zr (zsr b)) = .ref b := zsr_ad base b
  have hz2 : zc base (zi ((xs i.toNat).toInt)) = .int (xs i.toNat) := by show Value.int _ = _; rw [Int32.ofInt_toInt]
  simp only [List.map_cons, hz, hz2] at K ⊢
  obtain ⟨x1, x2, x3⟩ := E.2.2.2.2.2.1.2
  refine va_sld E.1.1 E.1.2.1 x1 (by omega) (by show ¬ base ≤ b; omega) hS (zi_in hi g0 g1) hd ?_
  rw [zi_clamp hi]
  exact K
theorem z_slen (hd : decode (zb M) pc = .ok (.arraylength, 1)) (hL9 : L < 2147483648) (K : zW (zXs b L xs) l M B1 B2 Q (pc + 1) ls (zi L :: st) sh h) : zW (zXs b L xs) l M B1 B2 Q pc ls (zr (zsr b) :: st) sh h := by
  intro p e R s m args below meth c Z base D I k0 n0 E H locs cells slots lsr h1 h2 hP hS hL hst hls
  have K := K p e R s m args below meth c Z base D I k0 n0 E H locs cells slots lsr h1 h2 hP hS hL (zok_cons (show r32 L by unfold r32; omega) (zok_tl hst)) hls
  have hz : zc base (zr (zsr b)) = .ref b := zsr_ad base b
  have hz2 : zc base (zi L) = .int (Int32.ofNat L) := by
    show Value.int _ = Value.int _
    congr 1
  simp only [List.map_cons, hz, hz2] at K ⊢
  obtain ⟨x1, x2, x3⟩ := E.2.2.2.2.2.1.2
  exact va_slen E.1.1 E.1.2.1 x1 (by omega) (by show ¬ base ≤ b; omega) hS hd K
end Z7
