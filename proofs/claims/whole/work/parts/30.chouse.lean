/-- the bounds of a house of the class -/
def HB (h : zH) (t : Int) : Prop := ((2 ≤ h t 0 ∧ h t 0 ≤ 8) ∧ (0 ≤ h t 1 ∧ h t 1 ≤ 9) ∧ (0 ≤ h t 2 ∧ h t 2 ≤ 6) ∧ (0 ≤ h t 3 ∧ h t 3 ≤ 4)) ∧
  (∀ p, 0 ≤ p → p < h t 1 → (0 ≤ h (t + 1) p ∧ h (t + 1) p < h t 0) ∧ (0 ≤ h (t + 2) p ∧ h (t + 2) p < h t 0) ∧ (0 ≤ h (t + 3) p ∧ h (t + 3) p ≤ 9)) ∧
  (∀ d, 0 ≤ d → d < h t 2 → (1 ≤ h (t + 4) d ∧ h (t + 4) d ≤ 40) ∧ (0 ≤ h (t + 6) d ∧ h (t + 6) d ≤ 5) ∧ (0 ≤ h (t + 8) d ∧ h (t + 8) d < pw (h t 2))) ∧
  (∀ c, 0 ≤ c → c < h t 3 → 1 ≤ h (t + 9) c ∧ h (t + 9) c ≤ 9)
/-- the bounds of a now of the class, n, under the house t -/
def NBc (h : zH) (t n : Int) : Prop := (∀ d, 0 ≤ d → d < h t 2 → (0 ≤ h (n + 1) d ∧ h (n + 1) d < h t 0) ∧ (0 ≤ h (n + 2) d ∧ h (n + 2) d ≤ 99) ∧ (0 ≤ h (n + 3) d ∧ h (n + 3) d ≤ 9999) ∧ (0 ≤ h (n + 4) d ∧ h (n + 4) d ≤ 999)) ∧
  (∀ c, 0 ≤ c → c < h t 3 → 0 ≤ h (n + 5) c ∧ h (n + 5) c ≤ 9) ∧ (0 ≤ h n 5 ∧ h n 5 < pw (h t 2))
theorem qX4_hasRoom {l : Launch} {g h : zH} {Q : zQt} {t : Int} (hg : zGd g) (ht : t = 4 ∨ t = 14) {r : Int} (h1 : (0 ≤ r ∧ r < h t 0) → Q (some (zi 1)) (SHL, g) h) (h0 : ¬ (0 ≤ r ∧ r < h t 0) → Q (some (zi 0)) (SHL, g) h) : zC l mX4_hasRoom [zr t, zi r] (SHL, g) h Q := by
  obtain ⟨ts0, ts1, ts2, ts3, ts4, ts5, ts6, ts7, ts8, ts9, tg4, tg5, tg6, tg7, tg8, tg9, tg10, tg11, tg12⟩ := houseF hg ht
  refine z_method kX4_hasRoom.1 rfl (Nat.le_of_ble_eq_true rfl) (fun hok hh => ?_)
  refine z_iload_n dX4_hasRoom_0 rfl ?_
  refine z_if_lt (tgt := 16) dX4_hasRoom_1 (by decide) (fun c1 => ?_) (fun c1 => ?_)
  ·
    refine z_iconst dX4_hasRoom_16 ⟨by decide, by decide⟩ ?_
    refine z_ret (v := some (zi _)) dX4_hasRoom_17 (Or.inl rfl) (Nat.add_zero _).symm (Nat.add_zero _).symm rfl ?_
    first | exact h1 (by omega) | exact h0 (by omega)
  ·
    refine z_iload_n dX4_hasRoom_4 rfl ?_
    refine z_aload_n dX4_hasRoom_5 rfl (by omega) ?_
    refine y_geti (k' := 0) fl_X4_9 rfl dX4_hasRoom_6 ts0 (by decide) rfl ?_
    refine z_icmp_ge (tgt := 16) dX4_hasRoom_9 (by decide) (fun c9 => ?_) (fun c9 => ?_)
    ·
      refine z_iconst dX4_hasRoom_16 ⟨by decide, by decide⟩ ?_
      refine z_ret (v := some (zi _)) dX4_hasRoom_17 (Or.inl rfl) (Nat.add_zero _).symm (Nat.add_zero _).symm rfl ?_
      first | exact h1 (by omega) | exact h0 (by omega)
    ·
      refine z_iconst dX4_hasRoom_12 ⟨by decide, by decide⟩ ?_
      refine z_goto (tgt := 17) dX4_hasRoom_13 (by decide) ?_
      refine z_ret (v := some (zi _)) dX4_hasRoom_17 (Or.inr rfl) (Nat.add_zero _).symm (Nat.add_zero _).symm rfl ?_
      first | exact h1 (by omega) | exact h0 (by omega)
theorem qX4_hasPath {l : Launch} {g h : zH} {Q : zQt} {t : Int} (hg : zGd g) (ht : t = 4 ∨ t = 14) {r : Int} (h1 : (0 ≤ r ∧ r < h t 1) → Q (some (zi 1)) (SHL, g) h) (h0 : ¬ (0 ≤ r ∧ r < h t 1) → Q (some (zi 0)) (SHL, g) h) : zC l mX4_hasPath [zr t, zi r] (SHL, g) h Q := by
  obtain ⟨ts0, ts1, ts2, ts3, ts4, ts5, ts6, ts7, ts8, ts9, tg4, tg5, tg6, tg7, tg8, tg9, tg10, tg11, tg12⟩ := houseF hg ht
  refine z_method kX4_hasPath.1 rfl (Nat.le_of_ble_eq_true rfl) (fun hok hh => ?_)
  refine z_iload_n dX4_hasPath_0 rfl ?_
  refine z_if_lt (tgt := 16) dX4_hasPath_1 (by decide) (fun c1 => ?_) (fun c1 => ?_)
  ·
    refine z_iconst dX4_hasPath_16 ⟨by decide, by decide⟩ ?_
    refine z_ret (v := some (zi _)) dX4_hasPath_17 (Or.inl rfl) (Nat.add_zero _).symm (Nat.add_zero _).symm rfl ?_
    first | exact h1 (by omega) | exact h0 (by omega)
  ·
    refine z_iload_n dX4_hasPath_4 rfl ?_
    refine z_aload_n dX4_hasPath_5 rfl (by omega) ?_
    refine y_geti (k' := 1) fl_X4_43 rfl dX4_hasPath_6 ts0 (by decide) rfl ?_
    refine z_icmp_ge (tgt := 16) dX4_hasPath_9 (by decide) (fun c9 => ?_) (fun c9 => ?_)
    ·
      refine z_iconst dX4_hasPath_16 ⟨by decide, by decide⟩ ?_
      refine z_ret (v := some (zi _)) dX4_hasPath_17 (Or.inl rfl) (Nat.add_zero _).symm (Nat.add_zero _).symm rfl ?_
      first | exact h1 (by omega) | exact h0 (by omega)
    ·
      refine z_iconst dX4_hasPath_12 ⟨by decide, by decide⟩ ?_
      refine z_goto (tgt := 17) dX4_hasPath_13 (by decide) ?_
      refine z_ret (v := some (zi _)) dX4_hasPath_17 (Or.inr rfl) (Nat.add_zero _).symm (Nat.add_zero _).symm rfl ?_
      first | exact h1 (by omega) | exact h0 (by omega)
theorem qX4_hasDirector {l : Launch} {g h : zH} {Q : zQt} {t : Int} (hg : zGd g) (ht : t = 4 ∨ t = 14) {r : Int} (h1 : (0 ≤ r ∧ r < h t 2) → Q (some (zi 1)) (SHL, g) h) (h0 : ¬ (0 ≤ r ∧ r < h t 2) → Q (some (zi 0)) (SHL, g) h) : zC l mX4_hasDirector [zr t, zi r] (SHL, g) h Q := by
  obtain ⟨ts0, ts1, ts2, ts3, ts4, ts5, ts6, ts7, ts8, ts9, tg4, tg5, tg6, tg7, tg8, tg9, tg10, tg11, tg12⟩ := houseF hg ht
  refine z_method kX4_hasDirector.1 rfl (Nat.le_of_ble_eq_true rfl) (fun hok hh => ?_)
  refine z_iload_n dX4_hasDirector_0 rfl ?_
  refine z_if_lt (tgt := 16) dX4_hasDirector_1 (by decide) (fun c1 => ?_) (fun c1 => ?_)
  ·
    refine z_iconst dX4_hasDirector_16 ⟨by decide, by decide⟩ ?_
    refine z_ret (v := some (zi _)) dX4_hasDirector_17 (Or.inl rfl) (Nat.add_zero _).symm (Nat.add_zero _).symm rfl ?_
    first | exact h1 (by omega) | exact h0 (by omega)
  ·
    refine z_iload_n dX4_hasDirector_4 rfl ?_
    refine z_aload_n dX4_hasDirector_5 rfl (by omega) ?_
    refine y_geti (k' := 2) fl_X4_46 rfl dX4_hasDirector_6 ts0 (by decide) rfl ?_
    refine z_icmp_ge (tgt := 16) dX4_hasDirector_9 (by decide) (fun c9 => ?_) (fun c9 => ?_)
    ·
      refine z_iconst dX4_hasDirector_16 ⟨by decide, by decide⟩ ?_
      refine z_ret (v := some (zi _)) dX4_hasDirector_17 (Or.inl rfl) (Nat.add_zero _).symm (Nat.add_zero _).symm rfl ?_
      first | exact h1 (by omega) | exact h0 (by omega)
    ·
      refine z_iconst dX4_hasDirector_12 ⟨by decide, by decide⟩ ?_
      refine z_goto (tgt := 17) dX4_hasDirector_13 (by decide) ?_
      refine z_ret (v := some (zi _)) dX4_hasDirector_17 (Or.inr rfl) (Nat.add_zero _).symm (Nat.add_zero _).symm rfl ?_
      first | exact h1 (by omega) | exact h0 (by omega)
theorem qX4_hasChild {l : Launch} {g h : zH} {Q : zQt} {t : Int} (hg : zGd g) (ht : t = 4 ∨ t = 14) {r : Int} (h1 : (0 ≤ r ∧ r < h t 3) → Q (some (zi 1)) (SHL, g) h) (h0 : ¬ (0 ≤ r ∧ r < h t 3) → Q (some (zi 0)) (SHL, g) h) : zC l mX4_hasChild [zr t, zi r] (SHL, g) h Q := by
  obtain ⟨ts0, ts1, ts2, ts3, ts4, ts5, ts6, ts7, ts8, ts9, tg4, tg5, tg6, tg7, tg8, tg9, tg10, tg11, tg12⟩ := houseF hg ht
  refine z_method kX4_hasChild.1 rfl (Nat.le_of_ble_eq_true rfl) (fun hok hh => ?_)
  refine z_iload_n dX4_hasChild_0 rfl ?_
  refine z_if_lt (tgt := 16) dX4_hasChild_1 (by decide) (fun c1 => ?_) (fun c1 => ?_)
  ·
    refine z_iconst dX4_hasChild_16 ⟨by decide, by decide⟩ ?_
    refine z_ret (v := some (zi _)) dX4_hasChild_17 (Or.inl rfl) (Nat.add_zero _).symm (Nat.add_zero _).symm rfl ?_
    first | exact h1 (by omega) | exact h0 (by omega)
  ·
    refine z_iload_n dX4_hasChild_4 rfl ?_
    refine z_aload_n dX4_hasChild_5 rfl (by omega) ?_
    refine y_geti (k' := 3) fl_X4_49 rfl dX4_hasChild_6 ts0 (by decide) rfl ?_
    refine z_icmp_ge (tgt := 16) dX4_hasChild_9 (by decide) (fun c9 => ?_) (fun c9 => ?_)
    ·
      refine z_iconst dX4_hasChild_16 ⟨by decide, by decide⟩ ?_
      refine z_ret (v := some (zi _)) dX4_hasChild_17 (Or.inl rfl) (Nat.add_zero _).symm (Nat.add_zero _).symm rfl ?_
      first | exact h1 (by omega) | exact h0 (by omega)
    ·
      refine z_iconst dX4_hasChild_12 ⟨by decide, by decide⟩ ?_
      refine z_goto (tgt := 17) dX4_hasChild_13 (by decide) ?_
      refine z_ret (v := some (zi _)) dX4_hasChild_17 (Or.inr rfl) (Nat.add_zero _).symm (Nat.add_zero _).symm rfl ?_
      first | exact h1 (by omega) | exact h0 (by omega)
theorem qX4_allDirectors {l : Launch} {g h : zH} {Q : zQt} {t : Int} (hg : zGd g) (ht : t = 4 ∨ t = 14) (m2 : 0 ≤ h t 2 ∧ h t 2 ≤ 6) (hQ : Q (some (zi (pw (h t 2) - 1))) (SHL, g) h) : zC l mX4_allDirectors [zr t] (SHL, g) h Q := by
  obtain ⟨ts0, ts1, ts2, ts3, ts4, ts5, ts6, ts7, ts8, ts9, tg4, tg5, tg6, tg7, tg8, tg9, tg10, tg11, tg12⟩ := houseF hg ht
  refine z_method kX4_allDirectors.1 rfl (Nat.le_of_ble_eq_true rfl) (fun hok hh => ?_)
  have e1 := bshl_pw (h t 2) (by omega) (by omega)
  have p1 := pw_le (n := h t 2) (by omega)
  have p2 := pw_pos (h t 2)
  refine z_iconst dX4_allDirectors_0 ⟨by decide, by decide⟩ ?_
  refine z_aload_n dX4_allDirectors_1 rfl (by omega) ?_
  refine y_geti (k' := 2) fl_X4_46 rfl dX4_allDirectors_2 ts0 (by decide) rfl ?_
  refine z_ishl dX4_allDirectors_5 ?_
  rw [e1]
  refine z_iconst dX4_allDirectors_6 ⟨by decide, by decide⟩ ?_
  refine y_isub dX4_allDirectors_7 (by omega) (by omega) ?_
  refine z_ret (v := some (zi _)) dX4_allDirectors_8 trivial (Nat.add_zero _).symm (Nat.add_zero _).symm rfl ?_
  exact hQ
def othC (h : zH) (t p r : Int) : Int := if h (t + 1) p = r then h (t + 2) p else if h (t + 2) p = r then h (t + 1) p else -9
theorem qX4_acrossFrom {l : Launch} {g h : zH} {Q : zQt} {t : Int} (hg : zGd g) (ht : t = 4 ∨ t = 14) {p r : Int} (g2 : 0 ≤ p) (g3 : p < 9) (hQ : Q (some (zi (othC h t p r))) (SHL, g) h) : zC l mX4_acrossFrom [zr t, zi p, zi r] (SHL, g) h Q := by
  obtain ⟨ts0, ts1, ts2, ts3, ts4, ts5, ts6, ts7, ts8, ts9, tg4, tg5, tg6, tg7, tg8, tg9, tg10, tg11, tg12⟩ := houseF hg ht
  refine z_method kX4_acrossFrom.1 rfl (Nat.le_of_ble_eq_true rfl) (fun hok hh => ?_)
  refine z_aload_n dX4_acrossFrom_0 rfl (by omega) ?_
  refine y_geta (k' := 4) fl_X4_15 rfl dX4_acrossFrom_1 ts0 (by decide) tg4 ?_
  refine z_iload_n dX4_acrossFrom_4 rfl ?_
  refine z_iaload dX4_acrossFrom_5 ts1 (by omega) (by omega) rfl ?_
  refine z_iload_n dX4_acrossFrom_6 rfl ?_
  refine z_icmp_ne (tgt := 17) dX4_acrossFrom_7 (by decide) (fun c7 => ?_) (fun c7 => ?_)
  ·
    refine z_aload_n dX4_acrossFrom_17 rfl (by omega) ?_
    refine y_geta (k' := 5) fl_X4_19 rfl dX4_acrossFrom_18 ts0 (by decide) tg5 ?_
    refine z_iload_n dX4_acrossFrom_21 rfl ?_
    refine z_iaload dX4_acrossFrom_22 ts2 (by omega) (by omega) rfl ?_
    refine z_iload_n dX4_acrossFrom_23 rfl ?_
    refine z_icmp_ne (tgt := 36) dX4_acrossFrom_24 (by decide) (fun c24 => ?_) (fun c24 => ?_)
    ·
      refine z_bipush dX4_acrossFrom_36 ⟨by decide, by decide⟩ ?_
      refine z_ret (v := some (zi _)) dX4_acrossFrom_38 trivial (Nat.add_zero _).symm (Nat.add_zero _).symm rfl ?_
      first
        | (rw [show othC h t p r = h (t + 2) p by unfold othC; rw [if_pos (by omega)]] at hQ; exact hQ)
        | (rw [show othC h t p r = h (t + 1) p by unfold othC; rw [if_neg (by omega), if_pos (by omega)]] at hQ; exact hQ)
        | (rw [show othC h t p r = -9 by unfold othC; rw [if_neg (by omega), if_neg (by omega)]] at hQ; exact hQ)
    ·
      refine z_aload_n dX4_acrossFrom_27 rfl (by omega) ?_
      refine y_geta (k' := 4) fl_X4_15 rfl dX4_acrossFrom_28 ts0 (by decide) tg4 ?_
      refine z_iload_n dX4_acrossFrom_31 rfl ?_
      refine z_iaload dX4_acrossFrom_32 ts1 (by omega) (by omega) rfl ?_
      refine z_goto (tgt := 38) dX4_acrossFrom_33 (by decide) ?_
      refine z_ret (v := some (zi _)) dX4_acrossFrom_38 trivial (Nat.add_zero _).symm (Nat.add_zero _).symm rfl ?_
      first
        | (rw [show othC h t p r = h (t + 2) p by unfold othC; rw [if_pos (by omega)]] at hQ; exact hQ)
        | (rw [show othC h t p r = h (t + 1) p by unfold othC; rw [if_neg (by omega), if_pos (by omega)]] at hQ; exact hQ)
        | (rw [show othC h t p r = -9 by unfold othC; rw [if_neg (by omega), if_neg (by omega)]] at hQ; exact hQ)
  ·
    refine z_aload_n dX4_acrossFrom_10 rfl (by omega) ?_
    refine y_geta (k' := 5) fl_X4_19 rfl dX4_acrossFrom_11 ts0 (by decide) tg5 ?_
    refine z_iload_n dX4_acrossFrom_14 rfl ?_
    refine z_iaload dX4_acrossFrom_15 ts2 (by omega) (by omega) rfl ?_
    refine z_ret (v := some (zi _)) dX4_acrossFrom_16 trivial (Nat.add_zero _).symm (Nat.add_zero _).symm rfl ?_
    first
      | (rw [show othC h t p r = h (t + 2) p by unfold othC; rw [if_pos (by omega)]] at hQ; exact hQ)
      | (rw [show othC h t p r = h (t + 1) p by unfold othC; rw [if_neg (by omega), if_pos (by omega)]] at hQ; exact hQ)
      | (rw [show othC h t p r = -9 by unfold othC; rw [if_neg (by omega), if_neg (by omega)]] at hQ; exact hQ)
abbrev paC (h : zH) (t : Int) : Int → Int := fun p => h (t + 1) p
abbrev pbC (h : zH) (t : Int) : Int → Int := fun p => h (t + 2) p
abbrev psC (h : zH) (t : Int) : Int → Int := fun p => h (t + 3) p
theorem HB.ends {h : zH} {t : Int} (hb : HB h t) : ∀ p : Int, 0 ≤ p → p < ((h t 1).toNat : Int) → (0 ≤ paC h t p ∧ paC h t p < 8) ∧ (0 ≤ pbC h t p ∧ pbC h t p < 8) := fun p p0 p1 => by
  have a := hb.2.1 p p0 (by omega)
  have b := hb.1.1
  show (0 ≤ h (t + 1) p ∧ h (t + 1) p < 8) ∧ (0 ≤ h (t + 2) p ∧ h (t + 2) p < 8)
  omega
theorem cc_t {h : zH} {t k s : Int} {i : Nat} (hc : h (t + 3) i ≤ k ∧ (hasb (cpass (paC h t) (pbC h t) (psC h t) k i s) (h (t + 1) i) ∨ hasb (cpass (paC h t) (pbC h t) (psC h t) k i s) (h (t + 2) i))) : cpass (paC h t) (pbC h t) (psC h t) k (i + 1) s = bor (cpass (paC h t) (pbC h t) (psC h t) k i s) (bor (bshl 1 (h (t + 1) i)) (bshl 1 (h (t + 2) i))) := if_pos hc
theorem cc_f {h : zH} {t k s : Int} {i : Nat} (hc : ¬ (h (t + 3) i ≤ k ∧ (hasb (cpass (paC h t) (pbC h t) (psC h t) k i s) (h (t + 1) i) ∨ hasb (cpass (paC h t) (pbC h t) (psC h t) k i s) (h (t + 2) i)))) : cpass (paC h t) (pbC h t) (psC h t) k (i + 1) s = cpass (paC h t) (pbC h t) (psC h t) k i s := if_neg hc
/-- the rooms that paths of so many steps at most lead to -/
def rchC (h : zH) (t r k : Int) : Int := cit (paC h t) (pbC h t) (psC h t) k (h t 1).toNat (h t 0 - 1).toNat (bshl 1 r)
theorem lpX4_reach1 {l : Launch} {g h : zH} {Q : zQt} {t r k s e : Int} (hg : zGd g) (ht : t = 4 ∨ t = 14) (hb : HB h t) (s0 : 0 ≤ s) (s1 : s < 256) (K : ∀ (x6 : Option zV), zW zX0 l mX4_reachable ((SHL, g).1.length + zmc mX4_reachable) (ztot (SHL, g) + zms mX4_reachable) Q 78 [some (zr t), some (zi r), some (zi k), some (zi (cpass (paC h t) (pbC h t) (psC h t) k ((h t 1).toNat) s)), some (zi e), some (zi (((h t 1).toNat : Nat) : Int)), x6] [] (SHL, g) (h)) : ∀ (n i : Nat), i + n = (h t 1).toNat → ∀ (x6 : Option zV), zW zX0 l mX4_reachable ((SHL, g).1.length + zmc mX4_reachable) (ztot (SHL, g) + zms mX4_reachable) Q 19 [some (zr t), some (zi r), some (zi k), some (zi (cpass (paC h t) (pbC h t) (psC h t) k i s)), some (zi e), some (zi (i : Int)), x6] [] (SHL, g) (h) := by
  obtain ⟨ts0, ts1, ts2, ts3, ts4, ts5, ts6, ts7, ts8, ts9, tg4, tg5, tg6, tg7, tg8, tg9, tg10, tg11, tg12⟩ := houseF hg ht
  obtain ⟨⟨m0, m1, m2, m3⟩, mp, -⟩ := id hb
  intro n
  induction n with
  | zero =>
    intro i hi x6
    have e9 : i = (h t 1).toNat := by omega
    subst e9
    refine z_iload dX4_reachable_19 rfl ?_
    refine z_aload_n dX4_reachable_21 rfl (by omega) ?_
    refine y_geti (k' := 1) fl_X4_43 rfl dX4_reachable_22 ts0 (by decide) rfl ?_
    refine z_icmp_ge (tgt := 78) dX4_reachable_25 (by decide) (fun _ => ?_) (fun q => False.elim (by omega))
    exact K _
  | succ n ih =>
    intro i hi x6
    have f1 := mp i (by omega) (by omega)
    have f2 := cpass_r (ps := psC h t) (k := k) hb.ends s0 s1 i (by omega)
    have f3 := bor2 (cpass (paC h t) (pbC h t) (psC h t) k i s) (h (t + 1) i) (h (t + 2) i) (by omega) f2.2.1 (by omega) (by omega) (by omega) (by omega)
    refine z_iload dX4_reachable_19 rfl ?_
    refine z_aload_n dX4_reachable_21 rfl (by omega) ?_
    refine y_geti (k' := 1) fl_X4_43 rfl dX4_reachable_22 ts0 (by decide) rfl ?_
    refine z_icmp_ge (tgt := 78) dX4_reachable_25 (by decide) (fun q => False.elim (by omega)) (fun _ => ?_)
    refine z_iconst dX4_reachable_28 ⟨by decide, by decide⟩ ?_
    refine z_aload_n dX4_reachable_29 rfl (by omega) ?_
    refine y_geta (k' := 4) fl_X4_15 rfl dX4_reachable_30 ts0 (by decide) tg4 ?_
    refine z_iload dX4_reachable_33 rfl ?_
    refine z_iaload dX4_reachable_35 ts1 (by omega) (by omega) rfl ?_
    refine z_ishl dX4_reachable_36 ?_
    refine z_iconst dX4_reachable_37 ⟨by decide, by decide⟩ ?_
    refine z_aload_n dX4_reachable_38 rfl (by omega) ?_
    refine y_geta (k' := 5) fl_X4_19 rfl dX4_reachable_39 ts0 (by decide) tg5 ?_
    refine z_iload dX4_reachable_42 rfl ?_
    refine z_iaload dX4_reachable_44 ts2 (by omega) (by omega) rfl ?_
    refine z_ishl dX4_reachable_45 ?_
    refine z_ior dX4_reachable_46 ?_
    refine z_istore dX4_reachable_47 (by decide) rfl lss_7_6 ?_
    refine z_aload_n dX4_reachable_49 rfl (by omega) ?_
    refine y_geta (k' := 6) fl_X4_22 rfl dX4_reachable_50 ts0 (by decide) tg6 ?_
    refine z_iload dX4_reachable_53 rfl ?_
    refine z_iaload dX4_reachable_55 ts3 (by omega) (by omega) rfl ?_
    refine z_iload_n dX4_reachable_56 rfl ?_
    refine z_icmp_gt (tgt := 72) dX4_reachable_57 (by decide) (fun c57 => ?_) (fun c57 => ?_)
    ·
      refine y_iinc dX4_reachable_72 (by decide) rfl rfl (by omega) (by omega) lss_7_5 ?_
      refine z_goto (tgt := 19) dX4_reachable_75 (by decide) ?_
      have q := ih (i + 1) (by omega)
      first
        | (rw [cc_t ⟨by omega, Decidable.not_not.mp (fun z => c64 (f3.2.2.2.2.2.mpr z))⟩] at q; exact q _)
        | (rw [cc_f (fun z => (f3.2.2.2.2.2.mp c64) z.2)] at q; exact q _)
        | (rw [cc_f (fun z => by have := z.1; omega)] at q; exact q _)
    ·
      refine z_iload_n dX4_reachable_60 rfl ?_
      refine z_iload dX4_reachable_61 rfl ?_
      refine z_iand dX4_reachable_63 ?_
      refine z_if_eq (tgt := 72) dX4_reachable_64 (by decide) (fun c64 => ?_) (fun c64 => ?_)
      ·
        refine y_iinc dX4_reachable_72 (by decide) rfl rfl (by omega) (by omega) lss_7_5 ?_
        refine z_goto (tgt := 19) dX4_reachable_75 (by decide) ?_
        have q := ih (i + 1) (by omega)
        first
          | (rw [cc_t ⟨by omega, Decidable.not_not.mp (fun z => c64 (f3.2.2.2.2.2.mpr z))⟩] at q; exact q _)
          | (rw [cc_f (fun z => (f3.2.2.2.2.2.mp c64) z.2)] at q; exact q _)
          | (rw [cc_f (fun z => by have := z.1; omega)] at q; exact q _)
      ·
        refine z_iload_n dX4_reachable_67 rfl ?_
        refine z_iload dX4_reachable_68 rfl ?_
        refine z_ior dX4_reachable_70 ?_
        refine z_istore_n dX4_reachable_71 (by decide) rfl lss_7_3 ?_
        refine y_iinc dX4_reachable_72 (by decide) rfl rfl (by omega) (by omega) lss_7_5 ?_
        refine z_goto (tgt := 19) dX4_reachable_75 (by decide) ?_
        have q := ih (i + 1) (by omega)
        first
          | (rw [cc_t ⟨by omega, Decidable.not_not.mp (fun z => c64 (f3.2.2.2.2.2.mpr z))⟩] at q; exact q _)
          | (rw [cc_f (fun z => (f3.2.2.2.2.2.mp c64) z.2)] at q; exact q _)
          | (rw [cc_f (fun z => by have := z.1; omega)] at q; exact q _)
theorem lpX4_reach2 {l : Launch} {g h : zH} {Q : zQt} {t r k s : Int} (hg : zGd g) (ht : t = 4 ∨ t = 14) (hb : HB h t) (s0 : 0 ≤ s) (s1 : s < 256) (K : ∀ (x5 x6 : Option zV), zW zX0 l mX4_reachable ((SHL, g).1.length + zmc mX4_reachable) (ztot (SHL, g) + zms mX4_reachable) Q 84 [some (zr t), some (zi r), some (zi k), some (zi (cit (paC h t) (pbC h t) (psC h t) k (h t 1).toNat ((h t 0 - 1).toNat) s)), some (zi (1 + (((h t 0 - 1).toNat : Nat) : Int))), x5, x6] [] (SHL, g) (h)) : ∀ (n i : Nat), i + n = (h t 0 - 1).toNat → ∀ (x5 x6 : Option zV), zW zX0 l mX4_reachable ((SHL, g).1.length + zmc mX4_reachable) (ztot (SHL, g) + zms mX4_reachable) Q 7 [some (zr t), some (zi r), some (zi k), some (zi (cit (paC h t) (pbC h t) (psC h t) k (h t 1).toNat i s)), some (zi (1 + (i : Int))), x5, x6] [] (SHL, g) (h) := by
  obtain ⟨ts0, ts1, ts2, ts3, ts4, ts5, ts6, ts7, ts8, ts9, tg4, tg5, tg6, tg7, tg8, tg9, tg10, tg11, tg12⟩ := houseF hg ht
  obtain ⟨⟨m0, m1, m2, m3⟩, mp, -⟩ := id hb
  intro n
  induction n with
  | zero =>
    intro i hi x5 x6
    have e9 : i = (h t 0 - 1).toNat := by omega
    subst e9
    refine z_iload dX4_reachable_7 rfl ?_
    refine z_aload_n dX4_reachable_9 rfl (by omega) ?_
    refine y_geti (k' := 0) fl_X4_9 rfl dX4_reachable_10 ts0 (by decide) rfl ?_
    refine z_icmp_ge (tgt := 84) dX4_reachable_13 (by decide) (fun _ => ?_) (fun q => False.elim (by omega))
    exact K _ _
  | succ n ih =>
    intro i hi x5 x6
    have f2 := cit_r (ps := psC h t) (k := k) hb.ends s0 s1 i
    refine z_iload dX4_reachable_7 rfl ?_
    refine z_aload_n dX4_reachable_9 rfl (by omega) ?_
    refine y_geti (k' := 0) fl_X4_9 rfl dX4_reachable_10 ts0 (by decide) rfl ?_
    refine z_icmp_ge (tgt := 84) dX4_reachable_13 (by decide) (fun q => False.elim (by omega)) (fun _ => ?_)
    refine z_iconst dX4_reachable_16 ⟨by decide, by decide⟩ ?_
    refine z_istore dX4_reachable_17 (by decide) rfl lss_7_5 ?_
    refine lpX4_reach1 (s := cit (paC h t) (pbC h t) (psC h t) k (h t 1).toNat i s) hg ht hb f2.1 f2.2 (fun x6 => ?_) _ 0 (Nat.zero_add _) _
    refine y_iinc dX4_reachable_78 (by decide) rfl rfl (by omega) (by omega) lss_7_4 ?_
    refine z_goto (tgt := 7) dX4_reachable_81 (by decide) ?_
    have q := ih (i + 1) (by omega)
    rw [show 1 + (((i + 1 : Nat)) : Int) = 1 + (i : Int) + 1 by omega] at q
    exact q _ _
theorem qX4_reachable {l : Launch} {g h : zH} {Q : zQt} {t : Int} (hg : zGd g) (ht : t = 4 ∨ t = 14) {r k : Int} (hb : HB h t) (r0 : 0 ≤ r) (r1 : r < 8) (hQ : Q (some (zi (rchC h t r k))) (SHL, g) h) : zC l mX4_reachable [zr t, zi r, zi k] (SHL, g) h Q := by
  obtain ⟨ts0, ts1, ts2, ts3, ts4, ts5, ts6, ts7, ts8, ts9, tg4, tg5, tg6, tg7, tg8, tg9, tg10, tg11, tg12⟩ := houseF hg ht
  refine z_method kX4_reachable.1 rfl (Nat.le_of_ble_eq_true rfl) (fun hok hh => ?_)
  refine z_iconst dX4_reachable_0 ⟨by decide, by decide⟩ ?_
  refine z_iload_n dX4_reachable_1 rfl ?_
  refine z_ishl dX4_reachable_2 ?_
  refine z_istore_n dX4_reachable_3 (by decide) rfl lss_7_3 ?_
  refine z_iconst dX4_reachable_4 ⟨by decide, by decide⟩ ?_
  refine z_istore dX4_reachable_5 (by decide) rfl lss_7_4 ?_
  have f2 := bshl8 r r0 r1
  have K2 := lpX4_reach2 (l := l) (Q := Q) (r := r) (k := k) (s := bshl 1 r) hg ht hb f2.1 f2.2 (fun x5 x6 => by
    refine z_iload_n dX4_reachable_84 rfl ?_
    refine z_ret (v := some (zi _)) dX4_reachable_85 trivial (Nat.add_zero _).symm (Nat.add_zero _).symm rfl ?_
    exact hQ) (h t 0 - 1).toNat 0 (Nat.zero_add _)
  exact K2 _ _
abbrev friC (h : zH) (t : Int) : Int → Int := fun d => h (t + 8) d
abbrev graC (h : zH) (t : Int) : Int → Int := fun d => h (t + 6) d
theorem sq_t {h : zH} {t a : Int} {i : Nat} (hc : 0 < popc (band (h (t + 8) i) (spass (friC h t) (graC h t) i a)) ∧ h (t + 6) i ≤ popc (band (h (t + 8) i) (spass (friC h t) (graC h t) i a))) : spass (friC h t) (graC h t) (i + 1) a = bor (spass (friC h t) (graC h t) i a) (bshl 1 i) := if_pos hc
theorem sq_f {h : zH} {t a : Int} {i : Nat} (hc : ¬ (0 < popc (band (h (t + 8) i) (spass (friC h t) (graC h t) i a)) ∧ h (t + 6) i ≤ popc (band (h (t + 8) i) (spass (friC h t) (graC h t) i a)))) : spass (friC h t) (graC h t) (i + 1) a = spass (friC h t) (graC h t) i a := if_neg hc
/-- who laughs, by the class -/
def sprC (h : zH) (t s : Int) : Int := sit (friC h t) (graC h t) (h t 2).toNat (h t 2).toNat s
theorem lpX4_laugh1 {l : Launch} {g h : zH} {Q : zQt} {t x a e : Int} (hg : zGd g) (ht : t = 4 ∨ t = 14) (hb : HB h t) (a0 : 0 ≤ a) (a1 : a < pw (h t 2)) (K : ∀ (x5 : Option zV), zW zX0 l mX4_laughFrom ((SHL, g).1.length + zmc mX4_laughFrom) (ztot (SHL, g) + zms mX4_laughFrom) Q 67 [some (zr t), some (zi x), some (zi (spass (friC h t) (graC h t) ((h t 2).toNat) a)), some (zi e), some (zi (((h t 2).toNat : Nat) : Int)), x5] [] (SHL, g) (h)) : ∀ (n i : Nat), i + n = (h t 2).toNat → ∀ (x5 : Option zV), zW zX0 l mX4_laughFrom ((SHL, g).1.length + zmc mX4_laughFrom) (ztot (SHL, g) + zms mX4_laughFrom) Q 15 [some (zr t), some (zi x), some (zi (spass (friC h t) (graC h t) i a)), some (zi e), some (zi (i : Int)), x5] [] (SHL, g) (h) := by
  obtain ⟨ts0, ts1, ts2, ts3, ts4, ts5, ts6, ts7, ts8, ts9, tg4, tg5, tg6, tg7, tg8, tg9, tg10, tg11, tg12⟩ := houseF hg ht
  obtain ⟨⟨m0, m1, m2, m3⟩, mp, md, -⟩ := id hb
  intro n
  induction n with
  | zero =>
    intro i hi x5
    have e9 : i = (h t 2).toNat := by omega
    subst e9
    refine z_iload dX4_laughFrom_15 rfl ?_
    refine z_aload_n dX4_laughFrom_17 rfl (by omega) ?_
    refine y_geti (k' := 2) fl_X4_46 rfl dX4_laughFrom_18 ts0 (by decide) rfl ?_
    refine z_icmp_ge (tgt := 67) dX4_laughFrom_21 (by decide) (fun _ => ?_) (fun q => False.elim (by omega))
    exact K _
  | succ n ih =>
    intro i hi x5
    have f1 := md i (by omega) (by omega)
    have f2 := spass_r (fri := friC h t) (gra := graC h t) m2.2 a0 a1 i (by omega)
    have p1 := pw_le m2.2
    have f3 := band_r (h (t + 8) i) (spass (friC h t) (graC h t) i a) (by omega) (by omega) (by omega) (by omega)
    have f4 := popc_r (band (h (t + 8) i) (spass (friC h t) (graC h t) i a))
    refine z_iload dX4_laughFrom_15 rfl ?_
    refine z_aload_n dX4_laughFrom_17 rfl (by omega) ?_
    refine y_geti (k' := 2) fl_X4_46 rfl dX4_laughFrom_18 ts0 (by decide) rfl ?_
    refine z_icmp_ge (tgt := 67) dX4_laughFrom_21 (by decide) (fun q => False.elim (by omega)) (fun _ => ?_)
    refine z_aload_n dX4_laughFrom_24 rfl (by omega) ?_
    refine y_geta (k' := 11) fl_X4_37 rfl dX4_laughFrom_25 ts0 (by decide) tg11 ?_
    refine z_iload dX4_laughFrom_28 rfl ?_
    refine z_iaload dX4_laughFrom_30 ts8 (by omega) (by omega) rfl ?_
    refine z_iload_n dX4_laughFrom_31 rfl ?_
    refine z_iand dX4_laughFrom_32 ?_
    refine z_callS (T := mJ6_bitCount_0f7a4) (As := [_]) kJ6_bitCount_0f7a4 ml_X4_56 ⟨by decide, by decide⟩ dX4_laughFrom_33 rfl rfl (Nat.le_of_ble_eq_true rfl) (Nat.le_refl _) (Nat.le_refl _) (qJ6_bitCount_0f7a4 (by omega) (by omega) ?_)
    refine z_istore dX4_laughFrom_36 (by decide) rfl lss_6_5 ?_
    refine z_iload dX4_laughFrom_38 rfl ?_
    refine z_iconst dX4_laughFrom_40 ⟨by decide, by decide⟩ ?_
    refine z_aload_n dX4_laughFrom_41 rfl (by omega) ?_
    refine y_geta (k' := 9) fl_X4_31 rfl dX4_laughFrom_42 ts0 (by decide) tg9 ?_
    refine z_iload dX4_laughFrom_45 rfl ?_
    refine z_iaload dX4_laughFrom_47 ts6 (by omega) (by omega) rfl ?_
    refine z_mmax kmax ml_X4_62 (by decide) (Nat.le_of_ble_eq_true rfl) (Nat.le_add_right _ _) (Nat.le_add_right _ _) dX4_laughFrom_48 ?_
    refine z_icmp_lt (tgt := 61) dX4_laughFrom_51 (by decide) (fun c51 => ?_) (fun c51 => ?_)
    ·
      refine y_iinc dX4_laughFrom_61 (by decide) rfl rfl (by omega) (by omega) lss_6_4 ?_
      refine z_goto (tgt := 15) dX4_laughFrom_64 (by decide) ?_
      have q := ih (i + 1) (by omega)
      first
        | (rw [sq_t (by omega)] at q; exact q _)
        | (rw [sq_f (by omega)] at q; exact q _)
    ·
      refine z_iload_n dX4_laughFrom_54 rfl ?_
      refine z_iconst dX4_laughFrom_55 ⟨by decide, by decide⟩ ?_
      refine z_iload dX4_laughFrom_56 rfl ?_
      refine z_ishl dX4_laughFrom_58 ?_
      refine z_ior dX4_laughFrom_59 ?_
      refine z_istore_n dX4_laughFrom_60 (by decide) rfl lss_6_2 ?_
      refine y_iinc dX4_laughFrom_61 (by decide) rfl rfl (by omega) (by omega) lss_6_4 ?_
      refine z_goto (tgt := 15) dX4_laughFrom_64 (by decide) ?_
      have q := ih (i + 1) (by omega)
      first
        | (rw [sq_t (by omega)] at q; exact q _)
        | (rw [sq_f (by omega)] at q; exact q _)
theorem lpX4_laugh2 {l : Launch} {g h : zH} {Q : zQt} {t x a : Int} (hg : zGd g) (ht : t = 4 ∨ t = 14) (hb : HB h t) (a0 : 0 ≤ a) (a1 : a < pw (h t 2)) (K : ∀ (x4 x5 : Option zV), zW zX0 l mX4_laughFrom ((SHL, g).1.length + zmc mX4_laughFrom) (ztot (SHL, g) + zms mX4_laughFrom) Q 73 [some (zr t), some (zi x), some (zi (sit (friC h t) (graC h t) (h t 2).toNat ((h t 2).toNat) a)), some (zi (((h t 2).toNat : Nat) : Int)), x4, x5] [] (SHL, g) (h)) : ∀ (n i : Nat), i + n = (h t 2).toNat → ∀ (x4 x5 : Option zV), zW zX0 l mX4_laughFrom ((SHL, g).1.length + zmc mX4_laughFrom) (ztot (SHL, g) + zms mX4_laughFrom) Q 4 [some (zr t), some (zi x), some (zi (sit (friC h t) (graC h t) (h t 2).toNat i a)), some (zi (i : Int)), x4, x5] [] (SHL, g) (h) := by
  obtain ⟨ts0, ts1, ts2, ts3, ts4, ts5, ts6, ts7, ts8, ts9, tg4, tg5, tg6, tg7, tg8, tg9, tg10, tg11, tg12⟩ := houseF hg ht
  obtain ⟨⟨m0, m1, m2, m3⟩, mp, md, -⟩ := id hb
  intro n
  induction n with
  | zero =>
    intro i hi x4 x5
    have e9 : i = (h t 2).toNat := by omega
    subst e9
    refine z_iload_n dX4_laughFrom_4 rfl ?_
    refine z_aload_n dX4_laughFrom_5 rfl (by omega) ?_
    refine y_geti (k' := 2) fl_X4_46 rfl dX4_laughFrom_6 ts0 (by decide) rfl ?_
    refine z_icmp_ge (tgt := 73) dX4_laughFrom_9 (by decide) (fun _ => ?_) (fun q => False.elim (by omega))
    exact K _ _
  | succ n ih =>
    intro i hi x4 x5
    have f2 := sit_r (fri := friC h t) (gra := graC h t) (D := (h t 2).toNat) (by omega) a0 (by rw [Int.toNat_of_nonneg m2.1]; exact a1) i
    rw [Int.toNat_of_nonneg m2.1] at f2
    refine z_iload_n dX4_laughFrom_4 rfl ?_
    refine z_aload_n dX4_laughFrom_5 rfl (by omega) ?_
    refine y_geti (k' := 2) fl_X4_46 rfl dX4_laughFrom_6 ts0 (by decide) rfl ?_
    refine z_icmp_ge (tgt := 73) dX4_laughFrom_9 (by decide) (fun q => False.elim (by omega)) (fun _ => ?_)
    refine z_iconst dX4_laughFrom_12 ⟨by decide, by decide⟩ ?_
    refine z_istore dX4_laughFrom_13 (by decide) rfl lss_6_4 ?_
    refine lpX4_laugh1 (a := sit (friC h t) (graC h t) (h t 2).toNat i a) hg ht hb f2.1 f2.2 (fun x5 => ?_) _ 0 (Nat.zero_add _) _
    refine y_iinc dX4_laughFrom_67 (by decide) rfl rfl (by omega) (by omega) lss_6_3 ?_
    refine z_goto (tgt := 4) dX4_laughFrom_70 (by decide) ?_
    exact ih (i + 1) (by omega) _ _
theorem qX4_laughFrom {l : Launch} {g h : zH} {Q : zQt} {t : Int} (hg : zGd g) (ht : t = 4 ∨ t = 14) {x : Int} (hb : HB h t) (a0 : 0 ≤ x) (a1 : x < pw (h t 2)) (hQ : Q (some (zi (sprC h t x))) (SHL, g) h) : zC l mX4_laughFrom [zr t, zi x] (SHL, g) h Q := by
  obtain ⟨ts0, ts1, ts2, ts3, ts4, ts5, ts6, ts7, ts8, ts9, tg4, tg5, tg6, tg7, tg8, tg9, tg10, tg11, tg12⟩ := houseF hg ht
  refine z_method kX4_laughFrom.1 rfl (Nat.le_of_ble_eq_true rfl) (fun hok hh => ?_)
  refine z_iload_n dX4_laughFrom_0 rfl ?_
  refine z_istore_n dX4_laughFrom_1 (by decide) rfl lss_6_2 ?_
  refine z_iconst dX4_laughFrom_2 ⟨by decide, by decide⟩ ?_
  refine z_istore_n dX4_laughFrom_3 (by decide) rfl lss_6_3 ?_
  refine lpX4_laugh2 (x := x) (a := x) hg ht hb a0 a1 (fun x4 x5 => ?_) _ 0 (Nat.zero_add _) _ _
  refine z_iload_n dX4_laughFrom_73 rfl ?_
  refine z_ret (v := some (zi _)) dX4_laughFrom_74 trivial (Nat.add_zero _).symm (Nat.add_zero _).symm rfl ?_
  exact hQ
def fewC (h : zH) (t : Int) : Nat → Int
  | 0 => pw (h t 2) - 1
  | n + 1 => if popc n < popc (fewC h t n) ∧ sprC h t n = pw (h t 2) - 1 then n else fewC h t n
theorem fewC_t {h : zH} {t : Int} {n : Nat} (hc : popc n < popc (fewC h t n) ∧ sprC h t n = pw (h t 2) - 1) : fewC h t (n + 1) = n := if_pos hc
theorem fewC_f {h : zH} {t : Int} {n : Nat} (hc : ¬ (popc n < popc (fewC h t n) ∧ sprC h t n = pw (h t 2) - 1)) : fewC h t (n + 1) = fewC h t n := if_neg hc
theorem fewC_r {h : zH} {t : Int} (p : 1 ≤ pw (h t 2)) : ∀ n : Nat, (n : Int) ≤ pw (h t 2) - 1 → (0 ≤ fewC h t n ∧ fewC h t n ≤ pw (h t 2) - 1) := by
  intro n
  induction n with
  | zero => intro _; exact ⟨by show 0 ≤ pw (h t 2) - 1; omega, Int.le_refl _⟩
  | succ n ih =>
    intro hn
    by_cases hc : popc n < popc (fewC h t n) ∧ sprC h t n = pw (h t 2) - 1
    · rw [fewC_t hc]; omega
    · rw [fewC_f hc]; exact ih (by omega)
theorem lpX4_fewest {l : Launch} {g h : zH} {Q : zQt} {t : Int} (hg : zGd g) (ht : t = 4 ∨ t = 14) (hb : HB h t) (K : zW zX0 l mX4_fewestToLaugh ((SHL, g).1.length + zmc mX4_fewestToLaugh) (ztot (SHL, g) + zms mX4_fewestToLaugh) Q 42 [some (zr t), some (zi (pw (h t 2) - 1)), some (zi (fewC h t ((pw (h t 2) - 1).toNat))), some (zi (((pw (h t 2) - 1).toNat : Nat) : Int))] [] (SHL, g) (h)) : ∀ (n i : Nat), i + n = (pw (h t 2) - 1).toNat → zW zX0 l mX4_fewestToLaugh ((SHL, g).1.length + zmc mX4_fewestToLaugh) (ztot (SHL, g) + zms mX4_fewestToLaugh) Q 9 [some (zr t), some (zi (pw (h t 2) - 1)), some (zi (fewC h t i)), some (zi (i : Int))] [] (SHL, g) (h) := by
  obtain ⟨ts0, ts1, ts2, ts3, ts4, ts5, ts6, ts7, ts8, ts9, tg4, tg5, tg6, tg7, tg8, tg9, tg10, tg11, tg12⟩ := houseF hg ht
  obtain ⟨⟨m0, m1, m2, m3⟩, mp, md, -⟩ := id hb
  have e1 := bshl_pw (h t 2) (by omega) (by omega)
  have p1 := pw_le (n := h t 2) (by omega)
  have p2 := pw_pos (h t 2)
  intro n
  induction n with
  | zero =>
    intro i hi 
    have e9 : i = (pw (h t 2) - 1).toNat := by omega
    subst e9
    refine z_iload_n dX4_fewestToLaugh_9 rfl ?_
    refine z_iload_n dX4_fewestToLaugh_10 rfl ?_
    refine z_icmp_ge (tgt := 42) dX4_fewestToLaugh_11 (by decide) (fun _ => ?_) (fun q => False.elim (by omega))
    exact K
  | succ n ih =>
    intro i hi 
    have f1 := fewC_r (h := h) (t := t) p2 i (by omega)
    refine z_iload_n dX4_fewestToLaugh_9 rfl ?_
    refine z_iload_n dX4_fewestToLaugh_10 rfl ?_
    refine z_icmp_ge (tgt := 42) dX4_fewestToLaugh_11 (by decide) (fun q => False.elim (by omega)) (fun _ => ?_)
    refine z_iload_n dX4_fewestToLaugh_14 rfl ?_
    refine z_callS (T := mJ6_bitCount_0f7a4) (As := [_]) kJ6_bitCount_0f7a4 ml_X4_56 ⟨by decide, by decide⟩ dX4_fewestToLaugh_15 rfl rfl (Nat.le_of_ble_eq_true rfl) (Nat.le_refl _) (Nat.le_refl _) (qJ6_bitCount_0f7a4 (by omega) (by omega) ?_)
    refine z_iload_n dX4_fewestToLaugh_18 rfl ?_
    refine z_callS (T := mJ6_bitCount_0f7a4) (As := [_]) kJ6_bitCount_0f7a4 ml_X4_56 ⟨by decide, by decide⟩ dX4_fewestToLaugh_19 rfl rfl (Nat.le_of_ble_eq_true rfl) (Nat.le_refl _) (Nat.le_refl _) (qJ6_bitCount_0f7a4 (by omega) (by omega) ?_)
    refine z_icmp_ge (tgt := 36) dX4_fewestToLaugh_22 (by decide) (fun c22 => ?_) (fun c22 => ?_)
    ·
      refine y_iinc dX4_fewestToLaugh_36 (by decide) rfl rfl (by omega) (by omega) lss_4_3 ?_
      refine z_goto (tgt := 9) dX4_fewestToLaugh_39 (by decide) ?_
      have q := ih (i + 1) (by omega)
      first
        | (rw [fewC_t (by omega)] at q; exact q)
        | (rw [fewC_f (by omega)] at q; exact q)
    ·
      refine z_aload_n dX4_fewestToLaugh_25 rfl (by omega) ?_
      refine z_iload_n dX4_fewestToLaugh_26 rfl ?_
      refine z_callV (T := mX4_laughFrom) (As := [_]) kX4_laughFrom ml_X4_72 ⟨by decide, by decide⟩ dX4_fewestToLaugh_27 rfl rfl (Nat.le_of_ble_eq_true rfl) ts0 ⟨by decide, rfl⟩ (Nat.le_refl _) (Nat.le_refl _) (qX4_laughFrom hg ht hb (by omega) (by omega) ?_)
      refine z_iload_n dX4_fewestToLaugh_30 rfl ?_
      refine z_icmp_ne (tgt := 36) dX4_fewestToLaugh_31 (by decide) (fun c31 => ?_) (fun c31 => ?_)
      ·
        refine y_iinc dX4_fewestToLaugh_36 (by decide) rfl rfl (by omega) (by omega) lss_4_3 ?_
        refine z_goto (tgt := 9) dX4_fewestToLaugh_39 (by decide) ?_
        have q := ih (i + 1) (by omega)
        first
          | (rw [fewC_t (by omega)] at q; exact q)
          | (rw [fewC_f (by omega)] at q; exact q)
      ·
        refine z_iload_n dX4_fewestToLaugh_34 rfl ?_
        refine z_istore_n dX4_fewestToLaugh_35 (by decide) rfl lss_4_2 ?_
        refine y_iinc dX4_fewestToLaugh_36 (by decide) rfl rfl (by omega) (by omega) lss_4_3 ?_
        refine z_goto (tgt := 9) dX4_fewestToLaugh_39 (by decide) ?_
        have q := ih (i + 1) (by omega)
        first
          | (rw [fewC_t (by omega)] at q; exact q)
          | (rw [fewC_f (by omega)] at q; exact q)
theorem qX4_fewestToLaugh {l : Launch} {g h : zH} {Q : zQt} {t : Int} (hg : zGd g) (ht : t = 4 ∨ t = 14) (hb : HB h t) (hQ : Q (some (zi (fewC h t (pw (h t 2) - 1).toNat))) (SHL, g) h) : zC l mX4_fewestToLaugh [zr t] (SHL, g) h Q := by
  obtain ⟨ts0, ts1, ts2, ts3, ts4, ts5, ts6, ts7, ts8, ts9, tg4, tg5, tg6, tg7, tg8, tg9, tg10, tg11, tg12⟩ := houseF hg ht
  refine z_method kX4_fewestToLaugh.1 rfl (Nat.le_of_ble_eq_true rfl) (fun hok hh => ?_)
  refine z_aload_n dX4_fewestToLaugh_0 rfl (by omega) ?_
  refine z_callV (T := mX4_allDirectors) (As := []) kX4_allDirectors ml_X4_68 ⟨by decide, by decide⟩ dX4_fewestToLaugh_1 rfl rfl (Nat.le_of_ble_eq_true rfl) ts0 ⟨by decide, rfl⟩ (Nat.le_refl _) (Nat.le_refl _) (qX4_allDirectors hg ht hb.1.2.2.1 ?_)
  refine z_istore_n dX4_fewestToLaugh_4 (by decide) rfl lss_4_1 ?_
  refine z_iload_n dX4_fewestToLaugh_5 rfl ?_
  refine z_istore_n dX4_fewestToLaugh_6 (by decide) rfl lss_4_2 ?_
  refine z_iconst dX4_fewestToLaugh_7 ⟨by decide, by decide⟩ ?_
  refine z_istore_n dX4_fewestToLaugh_8 (by decide) rfl lss_4_3 ?_
  refine lpX4_fewest hg ht hb ?_ _ 0 (Nat.zero_add _)
  refine z_iload_n dX4_fewestToLaugh_42 rfl ?_
  refine z_ret (v := some (zi _)) dX4_fewestToLaugh_43 trivial (Nat.add_zero _).symm (Nat.add_zero _).symm rfl ?_
  exact hQ
