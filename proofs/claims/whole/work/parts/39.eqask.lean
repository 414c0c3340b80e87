/-! The questions: class and reference answer alike. -/
theorem eq_may {g c m : zH} {t : Int} (R : Rel g c m t) (hm : MB m) {d p : Int} (d0 : 0 ≤ d) (d1 : d < m 240 3) (p0 : 0 ≤ p) (p1 : p < m 240 1) : mayC c t d p ↔ mayM m d p := by
  have a := (R.1.2.1 p p0 p1).2.2
  have b := (R.1.2.2.1 d d0 d1).1
  have e := (R.n0 hm d0 d1).2.1
  unfold mayC mayM
  rw [a, b, e]
  omega
theorem eq_mayS {g c m : zH} {t : Int} (R : Rel g c m t) (hm : MB m) {p : Int} (p0 : 0 ≤ p) (p1 : p < m 240 1) : mayCS c t p = mayS m p := by
  unfold mayCS mayS
  rw [R.1.1.2.2.1]
  have m2 := hm.1.2.2.1
  refine bset_congr _ (fun d d0 d1 => ?_)
  have q := eq_may R hm d0 (show d < m 240 3 by omega) p0 p1
  by_cases z : mayC c t d p
  · rw [decide_eq_true z, decide_eq_true (q.1 z)]
  · rw [decide_eq_false z, decide_eq_false (fun w => z (q.2 w))]
theorem eq_path {g c m : zH} {t : Int} (R : Rel g c m t) (hm : MB m) (p w : Int) : pathC c t p w = pathF m p w := by
  unfold pathC pathF
  rw [R.1.1.2.1]
  by_cases z : 0 ≤ p ∧ p < m 240 1
  · rw [if_pos z, if_pos z]
    obtain ⟨a1, a2, a3⟩ := R.1.2.1 p z.1 z.2
    rw [a1, a2, a3, eq_mayS R hm z.1 z.2]
    by_cases w0 : w = 0
    · subst w0; rw [if_pos rfl, if_pos (by omega), if_pos (by omega), Int.add_zero]
    by_cases w1 : w = 1
    · subst w1; rw [if_neg (by omega), if_pos rfl, if_pos (by omega), if_pos (by omega)]
    by_cases w2 : w = 2
    · subst w2; rw [if_neg (by omega), if_neg (by omega), if_pos rfl, if_pos (by omega), if_pos (by omega)]
    by_cases w3 : w = 3
    · subst w3; rw [if_neg (by omega), if_neg (by omega), if_neg (by omega), if_pos rfl, if_pos (by omega), if_neg (by omega)]
    rw [if_neg w0, if_neg w1, if_neg w2, if_neg w3, if_neg (by omega)]
  · rw [if_neg z, if_neg z]
theorem eq_child {g c m : zH} {t : Int} (R : Rel g c m t) (hm : MB m) (i w : Int) : childC c t i w = childF m i w := by
  unfold childC childF
  rw [R.1.1.2.2.2]
  by_cases z : 0 ≤ i ∧ i < m 240 5
  · rw [if_pos z, if_pos (show 0 ≤ i ∧ i ≤ m 240 5 - 1 by omega), R.1.2.2.2 i z.1 z.2, R.nh hm z.1 z.2]
    by_cases w0 : w = 0
    · subst w0; rw [if_pos rfl, if_pos (by omega), if_pos rfl]
    by_cases w1 : w = 1
    · subst w1; rw [if_neg (by omega), if_pos rfl, if_pos (by omega), if_neg (by omega)]
    rw [if_neg w0, if_neg w1, if_neg (by omega)]
  · rw [if_neg z, if_neg (by omega)]
theorem eq_count {g c m : zH} {t : Int} (R : Rel g c m t) (w : Int) : countC c t w = countF m w := by
  unfold countC countF
  rw [R.1.1.1, R.1.1.2.1, R.1.1.2.2.1, R.1.1.2.2.2, R.2.2.1.1, R.2.2.2.2.1.1, R.2.2.2.2.2.2.1]
theorem sstep_congr {f f' g g' : Int → Int} {d s : Int} (e : f d = f' d ∧ g d = g' d) : sstep f g d s = sstep f' g' d s := by unfold sstep; rw [e.1, e.2]
theorem spass_congr {f f' g g' : Int → Int} (s : Int) : ∀ n : Nat, (∀ d : Int, 0 ≤ d → d < n → f d = f' d ∧ g d = g' d) → spass f g n s = spass f' g' n s := by
  intro n
  induction n with
  | zero => intro _; rfl
  | succ n ih =>
    intro e
    show sstep f g n (spass f g n s) = sstep f' g' n (spass f' g' n s)
    rw [ih (fun d d0 d1 => e d d0 (by omega)), sstep_congr (e n (by omega) (by omega))]
theorem sit_congr {f f' g g' : Int → Int} {D : Nat} (e : ∀ d : Int, 0 ≤ d → d < D → f d = f' d ∧ g d = g' d) (s : Int) : ∀ k : Nat, sit f g D k s = sit f' g' D k s := by
  intro k
  induction k with
  | zero => rfl
  | succ k ih =>
    show spass f g D (sit f g D k s) = spass f' g' D (sit f' g' D k s)
    rw [ih, spass_congr _ D e]
theorem eq_spr {g c m : zH} {t : Int} (R : Rel g c m t) (hm : MB m) (s : Int) : sprC c t s = sprM m s := by
  unfold sprC sprM
  rw [R.1.1.2.2.1]
  have m2 := hm.1.2.2.1
  exact sit_congr (fun d d0 d1 => ⟨(R.1.2.2.1 d d0 (by omega)).2.2, (R.1.2.2.1 d d0 (by omega)).2.1⟩) s _
theorem eq_spread {g c m : zH} {t : Int} (R : Rel g c m t) (hm : MB m) (s : Int) : spreadC c t s = spreadF m s := by
  unfold spreadC spreadF
  rw [R.1.1.2.2.1, eq_spr R hm]
theorem eq_st {g c m : zH} {t : Int} (R : Rel g c m t) (hm : MB m) : stC c t = sumN (fun d => m 244 (4 * d + 1)) (m 240 3).toNat := by
  unfold stC
  rw [R.1.1.2.2.1]
  have m2 := hm.1.2.2.1
  exact sumN_congr _ (fun d d0 d1 => (R.n0 hm d0 (by omega)).2.1)
theorem eq_in {g c m : zH} {t : Int} (R : Rel g c m t) (hm : MB m) (r : Int) : inC c t r = thereS m r := by
  unfold inC thereS
  rw [R.1.1.2.2.1]
  have m2 := hm.1.2.2.1
  exact bset_congr _ (fun d d0 d1 => by rw [(R.n0 hm d0 (show d < m 240 3 by omega)).1])
/-! who -/
theorem bset_as : ∀ x n : Int, 0 ≤ x → x < 64 → 0 ≤ n → n < 7 → x < pw n → bset (fun d => decide (hasb x d)) n.toNat = x := fin2 (A := 64) (B := 7) (P := fun x n => x < pw n → bset (fun d => decide (hasb x d)) n.toNat = x) (by decide +kernel)
theorem allw_has : ∀ n j : Int, 0 ≤ n → n < 7 → 0 ≤ j → j < 8 → (hasb (pw n - 1) j ↔ j < n) := fin2 (A := 7) (B := 8) (P := fun n j => (hasb (pw n - 1) j ↔ j < n)) (by decide +kernel)
theorem mayS_r {m : zH} (m2 : 0 ≤ m 240 3 ∧ m 240 3 ≤ 6) (p : Int) : 0 ≤ mayS m p ∧ mayS m p < pw (m 240 3) := by
  have a := bset_r (f := fun d => decide (mayM m d p)) (m 240 3).toNat (by omega)
  unfold mayS
  rw [show ((m 240 3).toNat : Int) = m 240 3 by omega] at a
  exact a
theorem mayS_has {m : zH} (m2 : 0 ≤ m 240 3 ∧ m 240 3 ≤ 6) {p d : Int} (d0 : 0 ≤ d) (d1 : d < 8) : hasb (mayS m p) d ↔ (d < m 240 3 ∧ mayM m d p) := by
  have q := bset_has (f := fun d => decide (mayM m d p)) (m 240 3).toNat (by omega) d d0 d1
  unfold mayS
  rw [q, show ((m 240 3).toNat : Int) = m 240 3 by omega]
  exact ⟨fun z => ⟨z.1, of_decide_eq_true z.2⟩, fun z => ⟨z.1, decide_eq_true z.2⟩⟩
theorem eq_whok {g c m : zH} {t : Int} (R : Rel g c m t) (hm : MB m) : ∀ k : Nat, (k : Int) ≤ m 240 13 → whoCk c t k = bset (fun d => whoK m d k) (m 240 3).toNat := by
  have m2 := hm.1.2.2.1
  have p6 := pw_le (n := m 240 3) (by omega)
  have p8 := pw_pos (m 240 3)
  intro k
  induction k with
  | zero =>
    intro _
    show pw (c t 2) - 1 = _
    rw [R.1.1.2.2.1]
    rw [← bset_as (pw (m 240 3) - 1) (m 240 3) (by omega) (by omega) m2.1 (by omega) (by omega)]
    refine bset_congr _ (fun d d0 d1 => ?_)
    exact decide_eq_true ((allw_has (m 240 3) d m2.1 (by omega) d0 (by omega)).2 (by omega))
  | succ k ih =>
    intro hk
    have q := hm.2.2.2.2.2.2.2.1 k (by omega) (by omega)
    have w := R.2.2.2.2.1.2 k (by omega) (by omega)
    show band (whoCk c t k) (if c 95 k = 1 then mayCS c t (c 94 k) else bxor (mayCS c t (c 94 k)) (-1)) = _
    rw [ih (by omega), w.1, w.2, eq_mayS R hm q.1.1 q.1.2]
    have br := bset_r (f := fun d => whoK m d k) (m 240 3).toNat (by omega)
    rw [show ((m 240 3).toNat : Int) = m 240 3 by omega] at br
    have mr := mayS_r m2 (m 248 (2 * (k : Int)))
    have br' := bset_r (f := fun d => whoK m d (k + 1)) (m 240 3).toNat (by omega)
    rw [show ((m 240 3).toNat : Int) = m 240 3 by omega] at br'
    have e : ∀ j : Int, 0 ≤ j → j < 8 → (hasb (bset (fun d => whoK m d (k + 1)) (m 240 3).toNat) j ↔ (j < m 240 3 ∧ whoK m j k = true ∧ (mayM m j (m 248 (2 * (k : Int))) ↔ m 248 (2 * (k : Int) + 1) = 1))) := by
      intro j j0 j1
      rw [bset_has _ (by omega) j j0 j1, show ((m 240 3).toNat : Int) = m 240 3 by omega]
      show (_ ∧ (whoK m j k && (decide (mayM m j (m 248 (2 * (k : Int)))) == decide (m 248 (2 * (k : Int) + 1) = 1))) = true) ↔ _
      rw [Bool.and_eq_true, beq_iff_eq, decide_eq_decide]
    by_cases z : m 248 (2 * (k : Int) + 1) = 1
    · rw [if_pos z]
      have b := band_r _ _ br.1 (by omega) mr.1 (by omega)
      refine bits_ext _ _ b.1 (by omega) br'.1 (by omega) (fun j j0 j1 => ?_)
      rw [e j j0 j1, band_has _ _ j br.1 (by omega) mr.1 (by omega) j0 j1, bset_has _ (by omega) j j0 j1, mayS_has m2 j0 j1, show ((m 240 3).toNat : Int) = m 240 3 by omega]
      exact ⟨fun y => ⟨y.1.1, y.1.2, iff_of_true y.2.2 z⟩, fun y => ⟨⟨y.1, y.2.1⟩, y.1, y.2.2.2 z⟩⟩
    · rw [if_neg z]
      have b := bnot_r _ _ br.1 (by omega) mr.1 (by omega)
      refine bits_ext _ _ b.1 (by omega) br'.1 (by omega) (fun j j0 j1 => ?_)
      rw [e j j0 j1, bnot_has _ _ j br.1 (by omega) mr.1 (by omega) j0 j1, bset_has _ (by omega) j j0 j1, mayS_has m2 j0 j1, show ((m 240 3).toNat : Int) = m 240 3 by omega]
      exact ⟨fun y => ⟨y.1.1, y.1.2, iff_of_false (fun x => y.2 ⟨y.1.1, x⟩) z⟩, fun y => ⟨⟨y.1, y.2.1⟩, fun x => z (y.2.2.1 x.2)⟩⟩
theorem eq_who {g c m : zH} {t : Int} (R : Rel g c m t) (hm : MB m) : whoC c t = whoS m := by
  have m5 := hm.1.2.2.2.2.2.1
  unfold whoC whoS
  rw [R.2.2.2.2.1.1]
  exact eq_whok R hm _ (by omega)
theorem whoS_r {m : zH} (m2 : 0 ≤ m 240 3 ∧ m 240 3 ≤ 6) : 0 ≤ whoS m ∧ whoS m < pw (m 240 3) := by
  have a := bset_r (f := fun d => whoK m d (m 240 13).toNat) (m 240 3).toNat (by omega)
  unfold whoS
  rw [show ((m 240 3).toNat : Int) = m 240 3 by omega] at a
  exact a
theorem eq_askg {g c m : zH} {t : Int} (R : Rel g c m t) (hm : MB m) {p s : Int} (p0 : 0 ≤ p) (p1 : p < m 240 1) (s0 : 0 ≤ s) (s1 : s < pw (m 240 3)) : askCg c t s p = askG m s p (m 240 3).toNat := by
  have m2 := hm.1.2.2.1
  have p6 := pw_le (n := m 240 3) (by omega)
  have mr := mayS_r m2 p
  unfold askCg askG
  rw [eq_mayS R hm p0 p1, popc_band s (mayS m p) (m 240 3) s0 (by omega) mr.1 (by omega) m2.1 (by omega) mr.2]
  refine sumN_congr _ (fun d d0 d1 => ?_)
  have q := mayS_has m2 (p := p) d0 (by omega)
  by_cases z : hasb s d ∧ mayM m d p
  · rw [if_pos z, if_pos ⟨z.1, q.2 ⟨by omega, z.2⟩⟩]
  · rw [if_neg z, if_neg (fun y => z ⟨y.1, (q.1 y.2).2⟩)]
theorem eq_ask {g c m : zH} {t : Int} (R : Rel g c m t) (hm : MB m) {s : Int} (s0 : 0 ≤ s) (s1 : s < pw (m 240 3)) : ∀ n : Nat, (n : Int) ≤ m 240 1 → askC c t s n = askB m s n := by
  intro n
  induction n with
  | zero => intro _; rfl
  | succ n ih =>
    intro hn
    show (if max (askCg c t s n) (popc s - askCg c t s n) < (askC c t s n).2 then ((n : Int), max (askCg c t s n) (popc s - askCg c t s n)) else askC c t s n) = (if max (askG m s n (m 240 3).toNat) (popc s - askG m s n (m 240 3).toNat) < (askB m s n).2 then ((n : Int), max (askG m s n (m 240 3).toNat) (popc s - askG m s n (m 240 3).toNat)) else askB m s n)
    rw [ih (by omega), eq_askg R hm (by omega) (by omega) s0 s1]
/-! the fewest -/
theorem sprM_ge {m : zH} (hm : MB m) {s : Int} (s0 : 0 ≤ s) (s1 : s < pw (m 240 3)) : s ≤ sprM m s ∧ sprM m s < pw (m 240 3) := by
  have m2 := hm.1.2.2.1
  have e : ((m 240 3).toNat : Int) = m 240 3 := by omega
  have h1 : ∀ k : Nat, s ≤ sit (friM m) (graM m) (m 240 3).toNat k s ∧ sit (friM m) (graM m) (m 240 3).toNat k s < pw (m 240 3) := by
    intro k
    induction k with
    | zero => exact ⟨Int.le_refl _, s1⟩
    | succ k ih =>
      have q := spass_r (fri := friM m) (gra := graM m) (D := m 240 3) (by omega) (s := sit (friM m) (graM m) (m 240 3).toNat k s) (by omega) ih.2 (m 240 3).toNat (by omega)
      exact ⟨Int.le_trans ih.1 q.1, q.2.1⟩
  exact h1 _
theorem popc_all : ∀ n : Int, 0 ≤ n → n < 7 → popc (pw n - 1) = n := fun n h0 h1 => by
  rcases (show n = 0 ∨ n = 1 ∨ n = 2 ∨ n = 3 ∨ n = 4 ∨ n = 5 ∨ n = 6 by omega) with rfl | rfl | rfl | rfl | rfl | rfl | rfl <;> decide +kernel
theorem eq_few {g c m : zH} {t : Int} (R : Rel g c m t) (hm : MB m) : fewC c t (pw (c t 2) - 1).toNat = fewB m (pw (m 240 3)).toNat := by
  have m2 := hm.1.2.2.1
  have p6 := pw_le (n := m 240 3) (by omega)
  have p8 := pw_pos (m 240 3)
  have A : ∀ n : Nat, (n : Int) ≤ pw (m 240 3) - 1 → (fewB m n = -9 ∧ fewC c t n = pw (m 240 3) - 1) ∨ (0 ≤ fewB m n ∧ fewB m n < pw (m 240 3) - 1 ∧ fewC c t n = fewB m n) := by
    intro n
    induction n with
    | zero => intro _; exact Or.inl ⟨rfl, by show pw (c t 2) - 1 = _; rw [R.1.1.2.2.1]⟩
    | succ n ih =>
      intro hn
      have e1 : fewB m (n + 1) = if (fewB m n = -9 ∨ popc n < popc (fewB m n)) ∧ sprM m n = pw (m 240 3) - 1 then (n : Int) else fewB m n := rfl
      have e2 : fewC c t (n + 1) = if popc n < popc (fewC c t n) ∧ sprC c t n = pw (c t 2) - 1 then (n : Int) else fewC c t n := rfl
      rw [R.1.1.2.2.1, eq_spr R hm] at e2
      rw [e1, e2]
      have pl := popc_le n (m 240 3) (by omega) (by omega) m2.1 (by omega) (by omega)
      have pa := popc_le (pw (m 240 3) - 1) (m 240 3) (by omega) (by omega) m2.1 (by omega) (by omega)
      have pb : popc (pw (m 240 3) - 1) = m 240 3 := popc_all (m 240 3) m2.1 (by omega)
      rcases ih (by omega) with ⟨q1, q2⟩ | ⟨q0, q1, q2⟩
      · by_cases z : sprM m n = pw (m 240 3) - 1
        · have h9 : popc (n : Int) < popc (pw (m 240 3) - 1) := by
            rw [pb]
            have h8 : ¬ popc (n : Int) = m 240 3 := fun y => by have := pl.2 y; omega
            have h7 := pl.1
            exact Int.lt_iff_le_and_ne.2 ⟨h7, h8⟩
          rw [if_pos ⟨Or.inl q1, z⟩, q2, if_pos ⟨h9, z⟩]
          exact Or.inr ⟨by omega, by omega, rfl⟩
        · rw [if_neg (fun y => z y.2), if_neg (fun y => z y.2)]
          exact Or.inl ⟨q1, q2⟩
      · have h9 : ¬ fewB m n = -9 := fun y => by rw [y] at q0; exact absurd q0 (by decide)
        by_cases z : popc (n : Int) < popc (fewB m n) ∧ sprM m n = pw (m 240 3) - 1
        · rw [if_pos ⟨Or.inr z.1, z.2⟩, q2, if_pos z]
          exact Or.inr ⟨by omega, by omega, rfl⟩
        · rw [if_neg (fun y => z ⟨y.1.resolve_left h9, y.2⟩), q2, if_neg z]
          exact Or.inr ⟨q0, q1, rfl⟩
  obtain ⟨N, hN⟩ : ∃ N : Nat, (pw (m 240 3)).toNat = N + 1 := ⟨(pw (m 240 3)).toNat - 1, by omega⟩
  have hN1 : (pw (m 240 3) - 1).toNat = N := by omega
  have hN2 : (N : Int) = pw (m 240 3) - 1 := by omega
  rw [R.1.1.2.2.1, hN, hN1]
  have e1 : fewB m (N + 1) = if (fewB m N = -9 ∨ popc N < popc (fewB m N)) ∧ sprM m N = pw (m 240 3) - 1 then (N : Int) else fewB m N := rfl
  rw [e1]
  have sg := sprM_ge hm (s := (N : Int)) (by omega) (by omega)
  have se : sprM m N = pw (m 240 3) - 1 := by omega
  rcases A N (by omega) with ⟨q1, q2⟩ | ⟨q0, q1, q2⟩
  · rw [if_pos ⟨Or.inl q1, se⟩, q2, hN2]
  · have pl := popc_le (fewB m N) (m 240 3) q0 (by omega) m2.1 (by omega) (by omega)
    have pb : popc (N : Int) = m 240 3 := by rw [hN2]; exact popc_all (m 240 3) m2.1 (by omega)
    have h9 : ¬ fewB m N = -9 := fun y => by rw [y] at q0; exact absurd q0 (by decide)
    rw [if_neg (fun y => by
      have h8 := y.1.resolve_left h9
      rw [pb] at h8
      have h7 := pl.1
      exact absurd (Int.lt_of_lt_of_le h8 h7) (Int.lt_irrefl _)), q2]
