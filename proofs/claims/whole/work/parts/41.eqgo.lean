/-! Ways, reach, meeting, edge, now: class and reference answer alike. -/
theorem eq_wf {g c m : zH} {t : Int} (R : Rel g c m t) (hm : MB m) {d : Int} (d0 : 0 ≤ d) (d1 : d < m 240 3) {v : Int} (v0 : 0 ≤ v) (v1 : v < 8) : wfC c t d v = cst m d v := by
  have n := R.n0 hm d0 d1
  unfold wfC ffC
  rw [R.1.1.1, R.1.1.2.1, n.1, n.2.1, (R.1.2.2.1 d d0 d1).1]
  exact eq_rit hm d0 d1 (fun p p0 p1 => R.1.2.1 p p0 p1) v v0 v1
theorem eq_way {g c m : zH} {t : Int} (R : Rel g c m t) (hm : MB m) (d r w : Int) : wayC c t d r w = wayF m d r w := by
  have m0 := hm.1.1
  unfold wayC wayF
  rw [R.1.1.2.2.1, R.1.1.1]
  by_cases z : 0 ≤ d ∧ d < m 240 3
  · by_cases y : 0 ≤ r ∧ r < m 240 0
    · rw [if_pos z, if_pos z, if_pos y, if_pos y, eq_wf R hm z.1 z.2 y.1 (by omega)]
      by_cases x : 0 ≤ w ∧ w ≤ 1
      · rw [if_pos x, if_pos x]
        rcases cst_lt hm z.1 z.2 (v := r) y.1 (by omega) with q | ⟨q1, q2, q3, q4⟩
        · rw [if_neg (by omega), if_pos q.1]
        · have a := dist_md hm z.1 z.2 (v := r) y.1 (by omega) q1
          rw [if_pos (by omega), if_neg q1, zdivp q2 (by omega) (by omega) (by omega), zmodp q2 (by omega) (by omega) (by omega), zdivp a.1.1 (by omega) (by omega) (by omega), zmodp a.1.1 (by omega) (by omega) (by omega)]
          rw [show cst m d r / 16 = dist m d r / 100 by omega, show cst m d r % 16 = dist m d r % 100 by omega]
      · rw [if_neg x, if_neg x]
    · rw [if_pos z, if_pos z, if_neg y, if_neg y]
  · rw [if_neg z, if_neg z]
/-! rooms that are reached -/
theorem bor2_as : ∀ x a b : Int, 0 ≤ x → x < 256 → 0 ≤ a → a < 8 → 0 ≤ b → b < 8 → (bor x (bor (bshl 1 a) (bshl 1 b)) = bor (bor x (pw a)) (pw b) ∧ 0 ≤ bor x (pw a) ∧ bor x (pw a) < 256) := fin3 (A := 256) (B := 8) (C := 8) (P := fun x a b => bor x (bor (bshl 1 a) (bshl 1 b)) = bor (bor x (pw a)) (pw b) ∧ 0 ≤ bor x (pw a) ∧ bor x (pw a) < 256) (by decide +kernel)
theorem one_has : ∀ r j : Int, 0 ≤ r → r < 8 → 0 ≤ j → j < 8 → (hasb (bshl 1 r) j ↔ j = r) := fin2 (A := 8) (B := 8) (P := fun r j => (hasb (bshl 1 r) j ↔ j = r)) (by decide +kernel)
theorem one_r : ∀ r : Int, 0 ≤ r → r < 8 → (0 ≤ bshl 1 r ∧ bshl 1 r < 256 ∧ pop8 (bshl 1 r) = 1) := fun r h0 h1 => by
  rcases (show r = 0 ∨ r = 1 ∨ r = 2 ∨ r = 3 ∨ r = 4 ∨ r = 5 ∨ r = 6 ∨ r = 7 by omega) with rfl | rfl | rfl | rfl | rfl | rfl | rfl | rfl <;> decide +kernel
theorem cstep_has {pa pb ps : Int → Int} {k p s j : Int} (s0 : 0 ≤ s) (s1 : s < 256) (ha : 0 ≤ pa p ∧ pa p < 8) (hb : 0 ≤ pb p ∧ pb p < 8) (j0 : 0 ≤ j) (j1 : j < 8) : hasb (cstep pa pb ps k p s) j ↔ (hasb s j ∨ ((ps p ≤ k ∧ (hasb s (pa p) ∨ hasb s (pb p))) ∧ (j = pa p ∨ j = pb p))) := by
  unfold cstep
  by_cases z : ps p ≤ k ∧ (hasb s (pa p) ∨ hasb s (pb p))
  · obtain ⟨e, e0, e1⟩ := bor2_as s (pa p) (pb p) s0 s1 ha.1 ha.2 hb.1 hb.2
    rw [if_pos z, e, has_new _ _ j e0 e1 hb.1 hb.2 j0 j1, has_new _ _ j s0 s1 ha.1 ha.2 j0 j1]
    exact ⟨fun y => y.elim (fun y => y.elim Or.inl (fun x => Or.inr ⟨z, Or.inl x⟩)) (fun x => Or.inr ⟨z, Or.inr x⟩), fun y => y.elim (fun x => Or.inl (Or.inl x)) (fun x => x.2.elim (fun w => Or.inl (Or.inr w)) Or.inr)⟩
  · rw [if_neg z]
    exact ⟨Or.inl, fun y => y.elim id (fun x => absurd x.1 z)⟩
theorem cpass_keep {pa pb ps : Int → Int} {k s : Int} {P : Nat} (hp : ∀ p : Int, 0 ≤ p → p < (P : Int) → (0 ≤ pa p ∧ pa p < 8) ∧ (0 ≤ pb p ∧ pb p < 8)) (s0 : 0 ≤ s) (s1 : s < 256) {j : Int} (j0 : 0 ≤ j) (j1 : j < 8) : ∀ n i : Nat, i ≤ n → n ≤ P → hasb (cpass pa pb ps k i s) j → hasb (cpass pa pb ps k n s) j := by
  intro n
  induction n with
  | zero => intro i hi _ hj; rw [show i = 0 by omega] at hj; exact hj
  | succ n ih =>
    intro i hi hn hj
    by_cases z : i = n + 1
    · rw [z] at hj; exact hj
    · have q := cpass_r (ps := ps) (k := k) hp s0 s1 n (by omega)
      have e := hp n (by omega) (by omega)
      exact (cstep_has (by omega) q.2.1 e.1 e.2 j0 j1).2 (Or.inl (ih i (by omega) (by omega) hj))
theorem cpass_up {pa pb ps : Int → Int} {k s : Int} {P : Nat} (hp : ∀ p : Int, 0 ≤ p → p < (P : Int) → (0 ≤ pa p ∧ pa p < 8) ∧ (0 ≤ pb p ∧ pb p < 8)) (s0 : 0 ≤ s) (s1 : s < 256) {u v : Int} {p : Nat} (p1 : p < P) (hk : ps p ≤ k) (hab : (u = pa p ∧ v = pb p) ∨ (u = pb p ∧ v = pa p)) (hu : hasb s u) : hasb (cpass pa pb ps k P s) v := by
  have e := hp p (by omega) (by omega)
  have u8 : (0 ≤ u ∧ u < 8) ∧ (0 ≤ v ∧ v < 8) := by rcases hab with ⟨rfl, rfl⟩ | ⟨rfl, rfl⟩ <;> exact ⟨by omega, by omega⟩
  have q := cpass_r (ps := ps) (k := k) hp s0 s1 p (by omega)
  have hu' := cpass_keep (ps := ps) (k := k) hp s0 s1 u8.1.1 u8.1.2 p 0 (by omega) (by omega) hu
  refine cpass_keep hp s0 s1 u8.2.1 u8.2.2 P (p + 1) (by omega) (by omega) ?_
  refine (cstep_has (by omega) q.2.1 e.1 e.2 u8.2.1 u8.2.2).2 (Or.inr ⟨⟨hk, ?_⟩, ?_⟩)
  · rcases hab with ⟨rfl, rfl⟩ | ⟨rfl, rfl⟩
    · exact Or.inl hu'
    · exact Or.inr hu'
  · rcases hab with ⟨rfl, rfl⟩ | ⟨rfl, rfl⟩
    · exact Or.inr rfl
    · exact Or.inl rfl
/-- what holds of the first and goes over each path, holds of all -/
theorem cit_inv {pa pb ps : Int → Int} {k s : Int} {P : Nat} (hp : ∀ p : Int, 0 ≤ p → p < (P : Int) → (0 ≤ pa p ∧ pa p < 8) ∧ (0 ≤ pb p ∧ pb p < 8)) (s0 : 0 ≤ s) (s1 : s < 256) (I : Int → Prop) (hI : ∀ j, 0 ≤ j → j < 8 → hasb s j → I j) (hs : ∀ p : Int, 0 ≤ p → p < (P : Int) → ps p ≤ k → (I (pa p) ∨ I (pb p)) → I (pa p) ∧ I (pb p)) : ∀ n : Nat, ∀ j, 0 ≤ j → j < 8 → hasb (cit pa pb ps k P n s) j → I j := by
  intro n
  induction n with
  | zero => exact hI
  | succ n ih =>
    have q := cit_r (ps := ps) (k := k) hp s0 s1 n
    have L : ∀ i : Nat, i ≤ P → ∀ j, 0 ≤ j → j < 8 → hasb (cpass pa pb ps k i (cit pa pb ps k P n s)) j → I j := by
      intro i
      induction i with
      | zero => intro _; exact ih
      | succ i ih2 =>
        intro hi j j0 j1 hj
        have w := cpass_r (ps := ps) (k := k) hp q.1 q.2 i (by omega)
        have e := hp i (by omega) (by omega)
        rcases (cstep_has (by omega) w.2.1 e.1 e.2 j0 j1).1 hj with y | ⟨⟨y1, y2⟩, y3⟩
        · exact ih2 (by omega) j j0 j1 y
        · have a := hs i (by omega) (by omega) y1 (y2.elim (fun x => Or.inl (ih2 (by omega) _ e.1.1 e.1.2 x)) (fun x => Or.inr (ih2 (by omega) _ e.2.1 e.2.2 x)))
          rcases y3 with rfl | rfl
          · exact a.1
          · exact a.2
    exact L P (Nat.le_refl _)
theorem cpass_congr {pa pb ps pa' pb' ps' : Int → Int} {k s : Int} : ∀ n : Nat, (∀ p : Int, 0 ≤ p → p < n → pa p = pa' p ∧ pb p = pb' p ∧ ps p = ps' p) → cpass pa pb ps k n s = cpass pa' pb' ps' k n s := by
  intro n
  induction n with
  | zero => intro _; rfl
  | succ n ih =>
    intro e
    obtain ⟨e1, e2, e3⟩ := e n (by omega) (by omega)
    show cstep pa pb ps k n (cpass pa pb ps k n s) = cstep pa' pb' ps' k n (cpass pa' pb' ps' k n s)
    rw [ih (fun p p0 p1 => e p p0 (by omega))]
    unfold cstep
    rw [e1, e2, e3]
theorem cit_congr {pa pb ps pa' pb' ps' : Int → Int} {k s : Int} {P : Nat} (e : ∀ p : Int, 0 ≤ p → p < P → pa p = pa' p ∧ pb p = pb' p ∧ ps p = ps' p) : ∀ n : Nat, cit pa pb ps k P n s = cit pa' pb' ps' k P n s := by
  intro n
  induction n with
  | zero => rfl
  | succ n ih =>
    show cpass pa pb ps k P (cit pa pb ps k P n s) = cpass pa' pb' ps' k P (cit pa' pb' ps' k P n s)
    rw [ih, cpass_congr P e]
theorem eq_reach {g c m : zH} {t : Int} (R : Rel g c m t) (hm : MB m) {d : Int} (d0 : 0 ≤ d) (d1 : d < m 240 3) : rchC c t (c 25 d) (c (t + 4) d - c 26 d) = reachF m d := by
  have m0 := hm.1.1
  have m1 := hm.1.2.1
  have n := R.n0 hm d0 d1
  have hd := dist_ex hm d0 d1
  have hs := (hm.nw d0 d1).1
  unfold rchC reachF
  rw [R.1.1.1, R.1.1.2.1, n.1, n.2.1, (R.1.2.2.1 d d0 d1).1, cit_congr (pa' := paM m) (pb' := pbM m) (ps' := psM m) (fun p p0 p1 => R.1.2.1 p p0 (by omega))]
  have o := one_r (m 244 (4 * d)) hs.1 (by omega)
  have cr := fun n => cit_r (ps := psM m) (k := m 242 (3 * d) - m 244 (4 * d + 1)) hm.ends o.1 o.2.1 n
  have br := bset_r (f := fun r => decide (dist m d r ≠ -9)) (m 240 0).toNat (by omega)
  have p9 := pw8 (n := ((m 240 0).toNat : Int)) (by omega)
  have sound : ∀ n : Nat, ∀ j, 0 ≤ j → j < 8 → hasb (cit (paM m) (pbM m) (psM m) (m 242 (3 * d) - m 244 (4 * d + 1)) (m 240 1).toNat n (bshl 1 (m 244 (4 * d)))) j → dist m d j ≠ -9 := by
    refine cit_inv hm.ends o.1 o.2.1 (fun j => dist m d j ≠ -9) (fun j j0 j1 hj => ?_) (fun p p0 p1 hk hI => ?_)
    · rw [(one_has _ j hs.1 (by omega) j0 j1).1 hj, hd.1]; decide
    · have may : mayM m d p := by unfold mayM; have : m 241 (3 * p + 2) ≤ m 242 (3 * d) - m 244 (4 * d + 1) := hk; omega
      have e1 : edg m d (m 241 (3 * p)) (m 241 (3 * p + 1)) _ := ⟨p, p0, by omega, may, rfl, Or.inl ⟨rfl, rfl⟩⟩
      have e2 : edg m d (m 241 (3 * p + 1)) (m 241 (3 * p)) _ := ⟨p, p0, by omega, may, rfl, Or.inr ⟨rfl, rfl⟩⟩
      rcases hI with x | x
      · exact ⟨x, (hd.2.2.1 _ _ _ e1 x).1⟩
      · exact ⟨(hd.2.2.1 _ _ _ e2 x).1, x⟩
  have compl : ∀ n : Nat, ∀ v, 0 ≤ v → v < 8 → dist m d v ≠ -9 → rk (dist m d) v ≤ n → hasb (cit (paM m) (pbM m) (psM m) (m 242 (3 * d) - m 244 (4 * d + 1)) (m 240 1).toNat n (bshl 1 (m 244 (4 * d)))) v := by
    intro n
    induction n with
    | zero =>
      intro v v0 v1 hv hr
      by_cases z : v = m 244 (4 * d)
      · exact (one_has _ v hs.1 (by omega) v0 v1).2 z
      · obtain ⟨u, K, _, _, _, h4, _⟩ := cst_par hm d0 d1 v0 v1 hv z
        have := rk_0 (dist m d) u
        omega
    | succ n ih =>
      intro v v0 v1 hv hr
      by_cases z : v = m 244 (4 * d)
      · have a : hasb (bshl 1 (m 244 (4 * d))) v := (one_has _ v hs.1 (by omega) v0 v1).2 z
        have b : ∀ n : Nat, hasb (cit (paM m) (pbM m) (psM m) (m 242 (3 * d) - m 244 (4 * d + 1)) (m 240 1).toNat n (bshl 1 (m 244 (4 * d)))) v := by
          intro n
          induction n with
          | zero => exact a
          | succ n ih3 => exact cpass_keep hm.ends (cr n).1 (cr n).2 v0 v1 _ 0 (by omega) (Nat.le_refl _) ih3
        exact b (n + 1)
      · obtain ⟨u, K, h1, h2, h3, h4, h5⟩ := cst_par hm d0 d1 v0 v1 hv z
        obtain ⟨p, p0, p1, hmay, hK, hab⟩ := h1
        have a := ih u h2.1 h2.2 h3 (by omega)
        unfold mayM at hmay
        exact cpass_up (p := p.toNat) hm.ends (cr n).1 (cr n).2 (by omega) (by rw [show (p.toNat : Int) = p by omega]; show m 241 (3 * p + 2) ≤ _; omega) (by rw [show (p.toNat : Int) = p by omega]; exact hab) a
  refine bits_ext _ _ (cr _).1 (cr _).2 br.1 (by omega) (fun j j0 j1 => ?_)
  rw [bset_has _ (by omega) j j0 j1, show ((m 240 0).toNat : Int) = m 240 0 by omega]
  constructor
  · intro h
    have q := sound _ j j0 j1 h
    exact ⟨dist_in hm d0 d1 j0 j1 q, decide_eq_true q⟩
  · intro h
    have q := of_decide_eq_true h.2
    exact compl _ j j0 j1 q (by have := dist_rk hm d0 d1 j0 j1 q; omega)
theorem eq_dir {g c m : zH} {t : Int} (R : Rel g c m t) (hm : MB m) (d w : Int) : dirC c t d w = dirF m d w := by
  unfold dirC dirF
  rw [R.1.1.2.2.1]
  by_cases z : 0 ≤ d ∧ d < m 240 3
  · rw [if_pos z, if_pos z, eq_reach R hm z.1 z.2]
    have n := R.n0 hm z.1 z.2
    have q := R.1.2.2.1 d z.1 z.2
    rw [n.1, n.2.1, n.2.2.1, n.2.2.2, q.1, q.2.1, q.2.2]
  · rw [if_neg z, if_neg z]
/-! the meeting -/
theorem eq_tog {g c m : zH} {t : Int} (R : Rel g c m t) (hm : MB m) {r : Int} (r0 : 0 ≤ r) (r1 : r < m 240 0) : ∀ k : Nat, (k : Int) ≤ m 240 3 → (allK m r k = true ∧ togC c t k r = sumK m r k ∧ 0 ≤ sumK m r k ∧ sumK m r k ≤ 2520 * k) ∨ (allK m r k = false ∧ 268435456 ≤ togC c t k r) := by
  have m0 := hm.1.1
  intro k
  induction k with
  | zero => intro _; exact Or.inl ⟨rfl, rfl, Int.le_refl _, Int.le_refl _⟩
  | succ k ih =>
    intro hk
    have e1 : togC c t (k + 1) r = if wfC c t k r < 268435456 then togC c t k r + zdiv (wfC c t k r) 16 else 268435456 := by
      show (if 0 ≤ r ∧ r < c t 0 then _ else _) = _
      rw [R.1.1.1, if_pos ⟨r0, r1⟩]
    have e2 : allK m r (k + 1) = (allK m r k && decide (dist m k r ≠ -9)) := rfl
    have e3 : sumK m r (k + 1) = sumK m r k + zdiv (dist m k r) 100 := rfl
    have zr := zdiv_r ((dist_ex hm (d := (k : Int)) (by omega) (by omega)).2.1 r r0 (by omega))
    rw [e1, e2, e3, eq_wf R hm (by omega) (by omega) r0 (by omega)]
    rcases cst_lt hm (d := (k : Int)) (by omega) (by omega) (v := r) r0 (by omega) with ⟨q1, q2⟩ | ⟨q1, q2, q3, q4⟩
    · right
      rw [q2, decide_eq_false (fun x => x q1), Bool.and_false]
      exact ⟨rfl, by rw [if_neg (by omega)]; exact Int.le_refl _⟩
    · have a := dist_md hm (d := (k : Int)) (by omega) (by omega) (v := r) r0 (by omega) q1
      rw [if_pos (by omega), decide_eq_true q1, Bool.and_true, zdivp q2 (by omega) (by omega) (by omega)]
      rw [zdivp a.1.1 (by omega) (by omega) (by omega)] at zr ⊢
      rw [show cst m k r / 16 = dist m k r / 100 by omega]
      rcases ih (by omega) with ⟨i1, i2, i3, i4⟩ | ⟨i1, i2⟩
      · left
        exact ⟨i1, by rw [i2], by omega, by omega⟩
      · right
        exact ⟨i1, by omega⟩
theorem eq_mt {g c m : zH} {t : Int} (R : Rel g c m t) (hm : MB m) : ∀ i : Nat, (i : Int) ≤ m 240 0 → (meetB m i = (-9, -9) ∧ mtC (togC c t (m 240 3).toNat) i = (-9, 268435456)) ∨ (0 ≤ (meetB m i).1 ∧ mtC (togC c t (m 240 3).toNat) i = meetB m i ∧ (meetB m i).2 < 268435456) := by
  have m2 := hm.1.2.2.1
  intro i
  induction i with
  | zero => intro _; exact Or.inl ⟨rfl, rfl⟩
  | succ i ih =>
    intro hi
    have e1 : meetB m (i + 1) = if allK m i (m 240 3).toNat = true ∧ ((meetB m i).1 = -9 ∨ sumK m i (m 240 3).toNat < (meetB m i).2) then ((i : Int), sumK m i (m 240 3).toNat) else meetB m i := rfl
    have e2 : mtC (togC c t (m 240 3).toNat) (i + 1) = if togC c t (m 240 3).toNat i < (mtC (togC c t (m 240 3).toNat) i).2 then ((i : Int), togC c t (m 240 3).toNat i) else mtC (togC c t (m 240 3).toNat) i := rfl
    rw [e1, e2]
    rcases ih (by omega) with ⟨q1, q2⟩ | ⟨q0, q1, q2⟩
    · rcases eq_tog R hm (r := (i : Int)) (by omega) (by omega) (m 240 3).toNat (by omega) with ⟨i1, i2, i3, i4⟩ | ⟨i1, i2⟩
      · right
        rw [if_pos ⟨i1, Or.inl (by rw [q1])⟩, q2, if_pos (show _ < (268435456 : Int) by omega), i2]
        exact ⟨show (0 : Int) ≤ i by omega, rfl, show sumK m i (m 240 3).toNat < 268435456 by omega⟩
      · left
        rw [if_neg (fun x => by rw [i1] at x; exact absurd x.1 (by decide)), q2, if_neg (show ¬ _ < (268435456 : Int) by omega)]
        exact ⟨q1, rfl⟩
    · right
      rw [q1]
      rcases eq_tog R hm (r := (i : Int)) (by omega) (by omega) (m 240 3).toNat (by omega) with ⟨i1, i2, i3, i4⟩ | ⟨i1, i2⟩
      · rw [i2]
        by_cases z : sumK m i (m 240 3).toNat < (meetB m i).2
        · rw [if_pos ⟨i1, Or.inr z⟩, if_pos z]
          exact ⟨show (0 : Int) ≤ i by omega, rfl, show sumK m i (m 240 3).toNat < 268435456 by omega⟩
        · rw [if_neg (fun x => x.2.elim (fun y => by omega) z), if_neg z]
          exact ⟨q0, rfl, q2⟩
      · rw [if_neg (fun x => by rw [i1] at x; exact absurd x.1 (by decide)), if_neg (by omega)]
        exact ⟨q0, rfl, q2⟩
theorem eq_now {g c m : zH} {t : Int} (R : Rel g c m t) (hm : MB m) (w : Int) : nowC c t w = nowF m w := by
  have m0 := hm.1.1
  have e : ∀ (x : Int × Int → Int), x = Prod.fst ∨ x = Prod.snd → (if 0 < c t 2 ∧ ¬ (meetC c t).1 = -9 then x (meetC c t) else -9) = x (meetF m) := by
    intro x hx
    unfold meetC meetF
    rw [R.1.1.2.2.1, R.1.1.1]
    by_cases z : 0 < m 240 3
    · rw [if_pos z]
      rcases eq_mt R hm (m 240 0).toNat (by omega) with ⟨q1, q2⟩ | ⟨q0, q1, q2⟩
      · rw [q2, if_neg (fun y => y.2 rfl), q1]
        rcases hx with rfl | rfl <;> rfl
      · rw [q1, if_pos ⟨z, by omega⟩]
    · rw [if_neg (fun y => z y.1), if_neg z]
      rcases hx with rfl | rfl <;> rfl
  have e1 := e Prod.fst (Or.inl rfl)
  have e2 := e Prod.snd (Or.inr rfl)
  unfold nowC nowF
  rw [e1, e2, eq_few R hm, eq_st R hm, R.nl]
/-! the edge -/
theorem pop8_in : ∀ x n : Int, 0 ≤ x → x < 256 → 0 ≤ n → n < 9 → (∀ j : Fin 8, hasb x (j.val : Int) → (j.val : Int) < n) → pop8 x ≤ n := fin2 (A := 256) (B := 9) (P := fun x n => (∀ j : Fin 8, hasb x (j.val : Int) → (j.val : Int) < n) → pop8 x ≤ n) (by decide +kernel)
theorem cit_stop {m : zH} (hm : MB m) {r : Int} (k : Int) (r0 : 0 ≤ r) (r1 : r < m 240 0) : cit (paM m) (pbM m) (psM m) k (m 240 1).toNat (m 240 0 - 1).toNat (bshl 1 r) = cit (paM m) (pbM m) (psM m) k (m 240 1).toNat 8 (bshl 1 r) := by
  have m0 := hm.1.1
  have m1 := hm.1.2.1
  have o := one_r r r0 (by omega)
  have cr := fun n => cit_r (ps := psM m) (k := k) hm.ends o.1 o.2.1 n
  have bd : ∀ n : Nat, ∀ j, 0 ≤ j → j < 8 → hasb (cit (paM m) (pbM m) (psM m) k (m 240 1).toNat n (bshl 1 r)) j → j < m 240 0 :=
    cit_inv hm.ends o.1 o.2.1 (fun j => j < m 240 0) (fun j j0 j1 hj => by rw [(one_has _ j r0 (by omega) j0 j1).1 hj]; exact r1) (fun p p0 p1 _ _ => by have q := hm.2.1 p p0 (by omega); exact ⟨q.1.2, q.2.1.2⟩)
  have pp : ∀ n : Nat, pop8 (cit (paM m) (pbM m) (psM m) k (m 240 1).toNat n (bshl 1 r)) ≤ m 240 0 := fun n => pop8_in _ _ (cr n).1 (cr n).2 (by omega) (by omega) (fun j hj => bd n j.val (by omega) (by omega) hj)
  have gr : ∀ n : Nat, cit (paM m) (pbM m) (psM m) k (m 240 1).toNat (n + 1) (bshl 1 r) = cit (paM m) (pbM m) (psM m) k (m 240 1).toNat n (bshl 1 r) ∨ (n : Int) + 2 ≤ pop8 (cit (paM m) (pbM m) (psM m) k (m 240 1).toNat (n + 1) (bshl 1 r)) := by
    intro n
    induction n with
    | zero =>
      have q := (cpass_r (ps := psM m) (k := k) hm.ends (cr 0).1 (cr 0).2 (m 240 1).toNat (Nat.le_refl _)).2.2
      rcases q with q | q
      · exact Or.inl q
      · right
        have w : pop8 (cit (paM m) (pbM m) (psM m) k (m 240 1).toNat 0 (bshl 1 r)) = 1 := o.2.2
        rw [w] at q
        show (0 : Int) + 2 ≤ _
        exact q
    | succ n ih =>
      rcases ih with q | q
      · left
        show cpass _ _ _ _ _ (cit (paM m) (pbM m) (psM m) k (m 240 1).toNat (n + 1) (bshl 1 r)) = _
        rw [q]
        exact q
      · have w := (cpass_r (ps := psM m) (k := k) hm.ends (cr (n + 1)).1 (cr (n + 1)).2 (m 240 1).toNat (Nat.le_refl _)).2.2
        rcases w with w | w
        · exact Or.inl w
        · right
          have w2 : pop8 (cit (paM m) (pbM m) (psM m) k (m 240 1).toNat (n + 1) (bshl 1 r)) < pop8 (cit (paM m) (pbM m) (psM m) k (m 240 1).toNat (n + 1 + 1) (bshl 1 r)) := w
          generalize pop8 (cit (paM m) (pbM m) (psM m) k (m 240 1).toNat (n + 1) (bshl 1 r)) = x1 at *
          generalize pop8 (cit (paM m) (pbM m) (psM m) k (m 240 1).toNat (n + 1 + 1) (bshl 1 r)) = x2 at *
          omega
  have fx : cit (paM m) (pbM m) (psM m) k (m 240 1).toNat ((m 240 0 - 1).toNat + 1) (bshl 1 r) = cit (paM m) (pbM m) (psM m) k (m 240 1).toNat (m 240 0 - 1).toNat (bshl 1 r) := by
    rcases gr (m 240 0 - 1).toNat with q | q
    · exact q
    · have w := pp ((m 240 0 - 1).toNat + 1)
      generalize pop8 (cit (paM m) (pbM m) (psM m) k (m 240 1).toNat ((m 240 0 - 1).toNat + 1) (bshl 1 r)) = x1 at *
      omega
  have st : ∀ i : Nat, cit (paM m) (pbM m) (psM m) k (m 240 1).toNat ((m 240 0 - 1).toNat + i) (bshl 1 r) = cit (paM m) (pbM m) (psM m) k (m 240 1).toNat (m 240 0 - 1).toNat (bshl 1 r) := by
    intro i
    induction i with
    | zero => rfl
    | succ i ih =>
      show cpass _ _ _ _ _ (cit (paM m) (pbM m) (psM m) k (m 240 1).toNat ((m 240 0 - 1).toNat + i) (bshl 1 r)) = _
      rw [ih]
      exact fx
  have q := st (8 - (m 240 0 - 1).toNat)
  rw [show (m 240 0 - 1).toNat + (8 - (m 240 0 - 1).toNat) = 8 by omega] at q
  exact q.symm
theorem eq_rch {g c m : zH} {t : Int} (R : Rel g c m t) (hm : MB m) {r : Int} (k : Int) (r0 : 0 ≤ r) (r1 : r < m 240 0) : rchC c t r k = cloM m r k := by
  have m1 := hm.1.2.1
  unfold rchC cloM
  rw [R.1.1.1, R.1.1.2.1, cit_congr (pa' := paM m) (pb' := pbM m) (ps' := psM m) (fun p p0 p1 => R.1.2.1 p p0 (by omega))]
  exact cit_stop hm k r0 r1
theorem eq_edge {g c m : zH} {t : Int} (R : Rel g c m t) (hm : MB m) (d r : Int) : edgeC c t d r = edgeF m d r := by
  unfold edgeC edgeF
  rw [R.1.1.2.2.1, R.1.1.1]
  by_cases z : 0 ≤ d ∧ d < m 240 3
  · by_cases y : 0 ≤ r ∧ r < m 240 0
    · have n := R.n0 hm z.1 z.2
      have q := R.1.2.2.1 d z.1 z.2
      have hs := (hm.nw z.1 z.2).1
      rw [if_pos z, if_pos z, if_pos y, if_pos y, n.1]
      by_cases x : m 244 (4 * d) = r
      · rw [if_pos x, if_pos x.symm]
      · rw [if_neg x, if_neg (fun w => x w.symm)]
        have A : ∀ (i : Nat) (k : Int), 0 ≤ k → (fsN (fun k => decide (hasb (cloM m (m 244 (4 * d)) k) r)) i k = -9 ∨ k ≤ fsN (fun k => decide (hasb (cloM m (m 244 (4 * d)) k) r)) i k) ∧ edC c t d r i k = (if fsN (fun k => decide (hasb (cloM m (m 244 (4 * d)) k) r)) i k = -9 ∨ m 242 (3 * d) - m 244 (4 * d + 1) - fsN (fun k => decide (hasb (cloM m (m 244 (4 * d)) k) r)) i k < 0 then -9 else min 60 (m 242 (3 * d) - m 244 (4 * d + 1) - fsN (fun k => decide (hasb (cloM m (m 244 (4 * d)) k) r)) i k)) := by
          intro i
          induction i with
          | zero => intro k _; exact ⟨Or.inl rfl, (if_pos (Or.inl rfl)).symm⟩
          | succ i ih =>
            intro k k0
            have e1 : edC c t d r (i + 1) k = if c (t + 4) d - c 26 d < k then -9 else if hasb (rchC c t (c 25 d) k) r then min 60 (c (t + 4) d - c 26 d - k) else edC c t d r i (k + 1) := rfl
            rw [n.1, n.2.1, q.1, eq_rch R hm k hs.1 hs.2] at e1
            have e2 : fsN (fun k => decide (hasb (cloM m (m 244 (4 * d)) k) r)) (i + 1) k = if decide (hasb (cloM m (m 244 (4 * d)) k) r) = true then k else fsN (fun k => decide (hasb (cloM m (m 244 (4 * d)) k) r)) i (k + 1) := rfl
            obtain ⟨i1, i2⟩ := ih (k + 1) (by omega)
            rw [e1, e2]
            by_cases v : hasb (cloM m (m 244 (4 * d)) k) r
            · rw [if_pos (decide_eq_true v), if_pos v]
              refine ⟨Or.inr (Int.le_refl _), ?_⟩
              clear v i1 i2 e1 e2 ih
              by_cases u : m 242 (3 * d) - m 244 (4 * d + 1) < k
              · rw [if_pos u, if_pos (Or.inr (by omega))]
              · rw [if_neg u, if_neg (by omega)]
            · rw [if_neg (fun h => v (of_decide_eq_true h)), if_neg v]
              generalize fsN (fun k => decide (hasb (cloM m (m 244 (4 * d)) k) r)) i (k + 1) = F at *
              rw [i2]
              clear v i2 e1 e2 ih
              refine ⟨by omega, ?_⟩
              by_cases u : m 242 (3 * d) - m 244 (4 * d + 1) < k
              · rw [if_pos u, if_pos (by omega)]
              · rw [if_neg u]
        exact (A 10 0 (Int.le_refl _)).2
    · rw [if_pos z, if_pos z, if_neg y, if_neg y]
  · rw [if_neg z, if_neg z]
