/-! The class: the odds. -/
def pwI (b : Int) : Nat → Int
  | 0 => 1
  | n + 1 => pwI b n * b
theorem pwI_r : ∀ b e : Int, 0 ≤ b → b < 11 → 0 ≤ e → e < 5 → (0 ≤ pwI b e.toNat ∧ pwI b e.toNat ≤ 10000 ∧ (e < 4 → pwI b e.toNat ≤ 1000)) := by
  have := fin2 (P := fun b e => 0 ≤ pwI b e.toNat ∧ pwI b e.toNat ≤ 10000 ∧ (e < 4 → pwI b e.toNat ≤ 1000)) (A := 11) (B := 5) (by decide +kernel)
  intro b e b0 b1 e0 e1
  exact this b e b0 b1 e0 e1
def chN (A : Int) : Nat → Int
  | 0 => 1
  | i + 1 => zdiv (chN A i * (A - i)) (i + 1)
def smN (x A : Int) : Nat → Int
  | 0 => 0
  | i + 1 => smN x A i + chN A i * pwI x i * pwI (10 - x) (A - i).toNat
theorem sm_r : ∀ x A e : Int, 0 ≤ x → x < 11 → 0 ≤ A → A < 5 → 0 ≤ e → e < 6 → (0 ≤ smN x A e.toNat ∧ smN x A e.toNat ≤ 1000000 ∧ 0 ≤ chN A e.toNat ∧ chN A e.toNat ≤ 10 ∧ 0 ≤ chN A e.toNat * pwI x e.toNat ∧ chN A e.toNat * pwI x e.toNat ≤ 1000000 ∧ 0 ≤ chN A e.toNat * pwI x e.toNat * pwI (10 - x) (A - e).toNat ∧ chN A e.toNat * pwI x e.toNat * pwI (10 - x) (A - e).toNat ≤ 1000000 ∧ -1000 ≤ chN A e.toNat * (A - e) ∧ chN A e.toNat * (A - e) ≤ 1000) := by
  have := fin3 (P := fun x A e => (0 ≤ smN x A e.toNat ∧ smN x A e.toNat ≤ 1000000 ∧ 0 ≤ chN A e.toNat ∧ chN A e.toNat ≤ 10 ∧ 0 ≤ chN A e.toNat * pwI x e.toNat ∧ chN A e.toNat * pwI x e.toNat ≤ 1000000 ∧ 0 ≤ chN A e.toNat * pwI x e.toNat * pwI (10 - x) (A - e).toNat ∧ chN A e.toNat * pwI x e.toNat * pwI (10 - x) (A - e).toNat ≤ 1000000 ∧ -1000 ≤ chN A e.toNat * (A - e) ∧ chN A e.toNat * (A - e) ≤ 1000)) (A := 11) (B := 5) (C := 6) (by decide +kernel)
  intro x A e x0 x1 a0 a1 e0 e1
  exact this x A e x0 x1 a0 a1 e0 e1
def egC : Nat → Int → Int → Int
  | 0, a, _ => a
  | n + 1, a, b => if b = 0 then a else egC n b (zmod a b)
theorem egC_z {n : Nat} {a b : Int} (e : b = 0) : egC (n + 1) a b = a := if_pos e
theorem egC_s {n : Nat} {a b : Int} (e : ¬ b = 0) : egC (n + 1) a b = egC n b (zmod a b) := if_neg e
theorem lpX1_power {l : Launch} {g h : zH} {Q : zQt} {b e : Int} (hg : zGd g) (b0 : 0 ≤ b) (b1 : b < 11) (e0 : 0 ≤ e) (e1 : e < 5) (K : zW zX0 l mX1_power ((SHL, g).1.length + zmc mX1_power) (ztot (SHL, g) + zms mX1_power) Q 19 [some (zi b), some (zi e), some (zi (pwI b (e.toNat))), some (zi ((e.toNat : Nat) : Int))] [] (SHL, g) (h)) : ∀ (n i : Nat), i + n = e.toNat → zW zX0 l mX1_power ((SHL, g).1.length + zmc mX1_power) (ztot (SHL, g) + zms mX1_power) Q 4 [some (zi b), some (zi e), some (zi (pwI b i)), some (zi (i : Int))] [] (SHL, g) (h) := by
  intro n
  induction n with
  | zero =>
    intro i hi 
    have e9 : i = e.toNat := by omega
    subst e9
    refine z_iload_n dX1_power_4 rfl ?_
    refine z_iload_n dX1_power_5 rfl ?_
    refine z_icmp_ge (tgt := 19) dX1_power_6 (by decide) (fun _ => ?_) (fun q => False.elim (by omega))
    exact K
  | succ n ih =>
    intro i hi 
    have f0 := pwI_r b i b0 b1 (by omega) (by omega)
    rw [Int.toNat_natCast] at f0
    have f1 := mulb f0.1 (f0.2.2 (by omega)) b0 (show b ≤ 10 by omega)
    refine z_iload_n dX1_power_4 rfl ?_
    refine z_iload_n dX1_power_5 rfl ?_
    refine z_icmp_ge (tgt := 19) dX1_power_6 (by decide) (fun q => False.elim (by omega)) (fun _ => ?_)
    refine z_iload_n dX1_power_9 rfl ?_
    refine z_iload_n dX1_power_10 rfl ?_
    refine y_imul dX1_power_11 (by omega) (by omega) ?_
    refine z_istore_n dX1_power_12 (by decide) rfl lss_4_2 ?_
    refine y_iinc dX1_power_13 (by decide) rfl rfl (by omega) (by omega) lss_4_3 ?_
    refine z_goto (tgt := 4) dX1_power_16 (by decide) ?_
    exact ih (i + 1) (by omega)
theorem qX1_power {l : Launch} {g h : zH} {Q : zQt} (hg : zGd g) {b e : Int} (b0 : 0 ≤ b) (b1 : b < 11) (e0 : 0 ≤ e) (e1 : e < 5) (hQ : Q (some (zi (pwI b e.toNat))) (SHL, g) h) : zC l mX1_power [zi b, zi e] (SHL, g) h Q := by
  refine z_method kX1_power.1 rfl (Nat.le_of_ble_eq_true rfl) (fun hok hh => ?_)
  refine z_iconst dX1_power_0 ⟨by decide, by decide⟩ ?_
  refine z_istore_n dX1_power_1 (by decide) rfl lss_4_2 ?_
  refine z_iconst dX1_power_2 ⟨by decide, by decide⟩ ?_
  refine z_istore_n dX1_power_3 (by decide) rfl lss_4_3 ?_
  refine lpX1_power hg b0 b1 e0 e1 ?_ _ 0 (Nat.zero_add _)
  refine z_iload_n dX1_power_19 rfl ?_
  refine z_ret (v := some (zi _)) dX1_power_20 trivial (Nat.add_zero _).symm (Nat.add_zero _).symm rfl ?_
  exact hQ
theorem lpX1_atMost {l : Launch} {g h : zH} {Q : zQt} {A k x : Int} (hg : zGd g) (x0 : 0 ≤ x) (x1 : x < 11) (a0 : 0 ≤ A) (a1 : A < 5) (k0 : 0 ≤ k) (K : zW zX0 l mX1_atMost ((SHL, g).1.length + zmc mX1_atMost) (ztot (SHL, g) + zms mX1_atMost) Q 64 [some (zi A), some (zi k), some (zi x), some (zi (smN x A ((min k A + 1).toNat))), some (zi (chN A ((min k A + 1).toNat))), some (zi (((min k A + 1).toNat : Nat) : Int))] [] (SHL, g) (h)) : ∀ (n i : Nat), i + n = (min k A + 1).toNat → zW zX0 l mX1_atMost ((SHL, g).1.length + zmc mX1_atMost) (ztot (SHL, g) + zms mX1_atMost) Q 8 [some (zi A), some (zi k), some (zi x), some (zi (smN x A i)), some (zi (chN A i)), some (zi (i : Int))] [] (SHL, g) (h) := by
  intro n
  induction n with
  | zero =>
    intro i hi 
    have e9 : i = (min k A + 1).toNat := by omega
    subst e9
    refine z_iload dX1_atMost_8 rfl ?_
    refine z_iload_n dX1_atMost_10 rfl ?_
    refine z_icmp_gt (tgt := 64) dX1_atMost_11 (by decide) (fun c11 => ?_) (fun c11 => ?_)
    ·
      exact K
    ·
      refine z_iload dX1_atMost_14 rfl ?_
      refine z_iload_n dX1_atMost_16 rfl ?_
      refine z_icmp_gt (tgt := 64) dX1_atMost_17 (by decide) (fun _ => ?_) (fun q => False.elim (by omega))
      exact K
  | succ n ih =>
    intro i hi 
    have f0 := sm_r x A i x0 x1 a0 a1 (by omega) (by omega)
    have f1 := sm_r x A ((i : Int) + 1) x0 x1 a0 a1 (by omega) (by omega)
    rw [Int.toNat_natCast] at f0
    refine z_iload dX1_atMost_8 rfl ?_
    refine z_iload_n dX1_atMost_10 rfl ?_
    refine z_icmp_gt (tgt := 64) dX1_atMost_11 (by decide) (fun q => False.elim (by omega)) (fun _ => ?_)
    refine z_iload dX1_atMost_14 rfl ?_
    refine z_iload_n dX1_atMost_16 rfl ?_
    refine z_icmp_gt (tgt := 64) dX1_atMost_17 (by decide) (fun q => False.elim (by omega)) (fun _ => ?_)
    refine z_iload_n dX1_atMost_20 rfl ?_
    refine z_iload dX1_atMost_21 rfl ?_
    refine z_iload_n dX1_atMost_23 rfl ?_
    refine z_iload dX1_atMost_24 rfl ?_
    refine z_callS (T := mX1_power) (As := [_, _]) kX1_power ml_X1_9 ⟨by decide, by decide⟩ dX1_atMost_26 rfl rfl (Nat.le_of_ble_eq_true rfl) (Nat.le_refl _) (Nat.le_refl _) (qX1_power hg (by omega) (by omega) (by omega) (by omega) ?_)
    rw [Int.toNat_natCast]
    refine y_imul dX1_atMost_29 (by omega) (by omega) ?_
    refine z_bipush dX1_atMost_30 ⟨by decide, by decide⟩ ?_
    refine z_iload_n dX1_atMost_32 rfl ?_
    refine y_isub dX1_atMost_33 (by omega) (by omega) ?_
    refine z_iload_n dX1_atMost_34 rfl ?_
    refine z_iload dX1_atMost_35 rfl ?_
    refine y_isub dX1_atMost_37 (by omega) (by omega) ?_
    refine z_callS (T := mX1_power) (As := [_, _]) kX1_power ml_X1_9 ⟨by decide, by decide⟩ dX1_atMost_38 rfl rfl (Nat.le_of_ble_eq_true rfl) (Nat.le_refl _) (Nat.le_refl _) (qX1_power hg (by omega) (by omega) (by omega) (by omega) ?_)
    refine y_imul dX1_atMost_41 (by omega) (by omega) ?_
    refine y_iadd dX1_atMost_42 (by omega) (by omega) ?_
    refine z_istore_n dX1_atMost_43 (by decide) rfl lss_6_3 ?_
    refine z_iload dX1_atMost_44 rfl ?_
    refine z_iload_n dX1_atMost_46 rfl ?_
    refine z_iload dX1_atMost_47 rfl ?_
    refine y_isub dX1_atMost_49 (by omega) (by omega) ?_
    refine y_imul dX1_atMost_50 (by omega) (by omega) ?_
    refine z_iload dX1_atMost_51 rfl ?_
    refine z_iconst dX1_atMost_53 ⟨by decide, by decide⟩ ?_
    refine y_iadd dX1_atMost_54 (by omega) (by omega) ?_
    refine z_idiv dX1_atMost_55 (by omega) ?_
    refine z_istore dX1_atMost_56 (by decide) rfl lss_6_4 ?_
    refine y_iinc dX1_atMost_58 (by decide) rfl rfl (by omega) (by omega) lss_6_5 ?_
    refine z_goto (tgt := 8) dX1_atMost_61 (by decide) ?_
    exact ih (i + 1) (by omega)
theorem qX1_atMost {l : Launch} {g h : zH} {Q : zQt} (hg : zGd g) {A k x : Int} (x0 : 0 ≤ x) (x1 : x < 11) (a0 : 0 ≤ A) (a1 : A < 5) (k0 : 0 ≤ k) (hQ : Q (some (zi (smN x A (min k A + 1).toNat))) (SHL, g) h) : zC l mX1_atMost [zi A, zi k, zi x] (SHL, g) h Q := by
  refine z_method kX1_atMost.1 rfl (Nat.le_of_ble_eq_true rfl) (fun hok hh => ?_)
  refine z_iconst dX1_atMost_0 ⟨by decide, by decide⟩ ?_
  refine z_istore_n dX1_atMost_1 (by decide) rfl lss_6_3 ?_
  refine z_iconst dX1_atMost_2 ⟨by decide, by decide⟩ ?_
  refine z_istore dX1_atMost_3 (by decide) rfl lss_6_4 ?_
  refine z_iconst dX1_atMost_5 ⟨by decide, by decide⟩ ?_
  refine z_istore dX1_atMost_6 (by decide) rfl lss_6_5 ?_
  refine lpX1_atMost hg x0 x1 a0 a1 k0 ?_ _ 0 (Nat.zero_add _)
  refine z_iload_n dX1_atMost_64 rfl ?_
  refine z_ret (v := some (zi _)) dX1_atMost_65 trivial (Nat.add_zero _).symm (Nat.add_zero _).symm rfl ?_
  exact hQ
theorem lpX1_cd {l : Launch} {g h : zH} {Q : zQt} {y0 y1 : Int} : ∀ (n i : Nat) (a b : Int) (x5 : Option zV), i + n = 64 → Q (some (zi (egC n a b))) (SHL, g) h → zW zX0 l mX1_commonDivisor ((SHL, g).1.length + zmc mX1_commonDivisor) (ztot (SHL, g) + zms mX1_commonDivisor) Q 7 [some (zi y0), some (zi y1), some (zi a), some (zi b), some (zi (i : Int)), x5] [] (SHL, g) h := by
  intro n
  induction n with
  | zero =>
    intro i a b x5 hi hQ
    refine z_iload dX1_commonDivisor_7 rfl ?_
    refine z_bipush dX1_commonDivisor_9 ⟨by decide, by decide⟩ ?_
    refine z_icmp_ge (tgt := 34) dX1_commonDivisor_11 (by decide) (fun _ => ?_) (fun q => False.elim (by omega))
    refine z_iload_n dX1_commonDivisor_34 rfl ?_
    refine z_ret (v := some (zi _)) dX1_commonDivisor_35 trivial (Nat.add_zero _).symm (Nat.add_zero _).symm rfl ?_
    exact hQ
  | succ n ih =>
    intro i a b x5 hi hQ
    refine z_iload dX1_commonDivisor_7 rfl ?_
    refine z_bipush dX1_commonDivisor_9 ⟨by decide, by decide⟩ ?_
    refine z_icmp_ge (tgt := 34) dX1_commonDivisor_11 (by decide) (fun q => False.elim (by omega)) (fun _ => ?_)
    refine z_iload_n dX1_commonDivisor_14 rfl ?_
    refine z_if_eq (tgt := 34) dX1_commonDivisor_15 (by decide) (fun c15 => ?_) (fun c15 => ?_)
    ·
      refine z_iload_n dX1_commonDivisor_34 rfl ?_
      refine z_ret (v := some (zi _)) dX1_commonDivisor_35 trivial (Nat.add_zero _).symm (Nat.add_zero _).symm rfl ?_
      rw [egC_z c15] at hQ
      exact hQ
    ·
      refine z_iload_n dX1_commonDivisor_18 rfl ?_
      refine z_iload_n dX1_commonDivisor_19 rfl ?_
      refine z_irem dX1_commonDivisor_20 (by omega) ?_
      refine z_istore dX1_commonDivisor_21 (by decide) rfl lss_6_5 ?_
      refine z_iload_n dX1_commonDivisor_23 rfl ?_
      refine z_istore_n dX1_commonDivisor_24 (by decide) rfl lss_6_2 ?_
      refine z_iload dX1_commonDivisor_25 rfl ?_
      refine z_istore_n dX1_commonDivisor_27 (by decide) rfl lss_6_3 ?_
      refine y_iinc dX1_commonDivisor_28 (by decide) rfl rfl (by omega) (by omega) lss_6_4 ?_
      refine z_goto (tgt := 7) dX1_commonDivisor_31 (by decide) ?_
      rw [egC_s c15] at hQ
      exact ih (i + 1) _ _ _ (by omega) hQ
theorem qX1_commonDivisor {l : Launch} {g h : zH} {Q : zQt}  {a b : Int} (hQ : Q (some (zi (egC 64 a b))) (SHL, g) h) : zC l mX1_commonDivisor [zi a, zi b] (SHL, g) h Q := by
  refine z_method kX1_commonDivisor.1 rfl (Nat.le_of_ble_eq_true rfl) (fun hok hh => ?_)
  refine z_iload_n dX1_commonDivisor_0 rfl ?_
  refine z_istore_n dX1_commonDivisor_1 (by decide) rfl lss_6_2 ?_
  refine z_iload_n dX1_commonDivisor_2 rfl ?_
  refine z_istore_n dX1_commonDivisor_3 (by decide) rfl lss_6_3 ?_
  refine z_iconst dX1_commonDivisor_4 ⟨by decide, by decide⟩ ?_
  refine z_istore dX1_commonDivisor_5 (by decide) rfl lss_6_4 ?_
  exact lpX1_cd 64 0 a b _ rfl hQ
def oddsC (h : zH) (t x k w : Int) : Int := if 0 ≤ x ∧ x ≤ 10 then (if 0 ≤ k ∧ k ≤ 4 then (if 0 ≤ w ∧ w ≤ 1 then zdiv (if w = 0 then smN x (h t 3) (min k (h t 3) + 1).toNat else pwI 10 (h t 3).toNat) (max 1 (egC 64 (smN x (h t 3) (min k (h t 3) + 1).toNat) (pwI 10 (h t 3).toNat))) else -1) else -1) else -1
theorem qX9_odds {l : Launch} {g h : zH} {Q : zQt} {t : Int} (hg : zGd g) (ht : t = 4 ∨ t = 14) (ht1 : g 1 1 = t) (hc : CB h t) {x k y : Int} (hQ : Q (some (zi (oddsC h t x k y))) (SHL, g) h) : zC l mX9_odds [zr 1, zi x, zi k, zi y] (SHL, g) h Q := by
  obtain ⟨ts0, ts1, ts2, ts3, ts4, ts5, ts6, ts7, ts8, ts9, tg4, tg5, tg6, tg7, tg8, tg9, tg10, tg11, tg12⟩ := houseF hg ht
  obtain ⟨⟨⟨m0, m1, m2, m3⟩, mp, md, mn⟩, ⟨nd, nc, nl⟩, ck, cs, cpp, cl, ct⟩ := id hc
  refine z_method kX9_odds.1 rfl (Nat.le_of_ble_eq_true rfl) (fun hok hh => ?_)
  refine z_iload_n dX9_odds_0 rfl ?_
  refine z_if_lt (tgt := 28) dX9_odds_1 (by decide) (fun c1 => ?_) (fun c1 => ?_)
  ·
    refine z_iconst dX9_odds_28 ⟨by decide, by decide⟩ ?_
    refine z_ret (v := some (zi _)) dX9_odds_29 trivial (Nat.add_zero _).symm (Nat.add_zero _).symm rfl ?_
    first
      | (rw [oddsC, if_neg (by omega)] at hQ; exact hQ)
      | (rw [oddsC, if_pos (by omega), if_neg (by omega)] at hQ; exact hQ)
      | (rw [oddsC, if_pos (by omega), if_pos (by omega), if_neg (by omega)] at hQ; exact hQ)
  ·
    refine z_iload_n dX9_odds_4 rfl ?_
    refine z_bipush dX9_odds_5 ⟨by decide, by decide⟩ ?_
    refine z_icmp_gt (tgt := 28) dX9_odds_7 (by decide) (fun c7 => ?_) (fun c7 => ?_)
    ·
      refine z_iconst dX9_odds_28 ⟨by decide, by decide⟩ ?_
      refine z_ret (v := some (zi _)) dX9_odds_29 trivial (Nat.add_zero _).symm (Nat.add_zero _).symm rfl ?_
      first
        | (rw [oddsC, if_neg (by omega)] at hQ; exact hQ)
        | (rw [oddsC, if_pos (by omega), if_neg (by omega)] at hQ; exact hQ)
        | (rw [oddsC, if_pos (by omega), if_pos (by omega), if_neg (by omega)] at hQ; exact hQ)
    ·
      refine z_iload_n dX9_odds_10 rfl ?_
      refine z_if_lt (tgt := 28) dX9_odds_11 (by decide) (fun c11 => ?_) (fun c11 => ?_)
      ·
        refine z_iconst dX9_odds_28 ⟨by decide, by decide⟩ ?_
        refine z_ret (v := some (zi _)) dX9_odds_29 trivial (Nat.add_zero _).symm (Nat.add_zero _).symm rfl ?_
        first
          | (rw [oddsC, if_neg (by omega)] at hQ; exact hQ)
          | (rw [oddsC, if_pos (by omega), if_neg (by omega)] at hQ; exact hQ)
          | (rw [oddsC, if_pos (by omega), if_pos (by omega), if_neg (by omega)] at hQ; exact hQ)
      ·
        refine z_iload_n dX9_odds_14 rfl ?_
        refine z_iconst dX9_odds_15 ⟨by decide, by decide⟩ ?_
        refine z_icmp_gt (tgt := 28) dX9_odds_16 (by decide) (fun c16 => ?_) (fun c16 => ?_)
        ·
          refine z_iconst dX9_odds_28 ⟨by decide, by decide⟩ ?_
          refine z_ret (v := some (zi _)) dX9_odds_29 trivial (Nat.add_zero _).symm (Nat.add_zero _).symm rfl ?_
          first
            | (rw [oddsC, if_neg (by omega)] at hQ; exact hQ)
            | (rw [oddsC, if_pos (by omega), if_neg (by omega)] at hQ; exact hQ)
            | (rw [oddsC, if_pos (by omega), if_pos (by omega), if_neg (by omega)] at hQ; exact hQ)
        ·
          refine z_iload_n dX9_odds_19 rfl ?_
          refine z_if_lt (tgt := 28) dX9_odds_20 (by decide) (fun c20 => ?_) (fun c20 => ?_)
          ·
            refine z_iconst dX9_odds_28 ⟨by decide, by decide⟩ ?_
            refine z_ret (v := some (zi _)) dX9_odds_29 trivial (Nat.add_zero _).symm (Nat.add_zero _).symm rfl ?_
            first
              | (rw [oddsC, if_neg (by omega)] at hQ; exact hQ)
              | (rw [oddsC, if_pos (by omega), if_neg (by omega)] at hQ; exact hQ)
              | (rw [oddsC, if_pos (by omega), if_pos (by omega), if_neg (by omega)] at hQ; exact hQ)
          ·
            refine z_iload_n dX9_odds_23 rfl ?_
            refine z_iconst dX9_odds_24 ⟨by decide, by decide⟩ ?_
            refine z_icmp_le (tgt := 30) dX9_odds_25 (by decide) (fun c25 => ?_) (fun c25 => ?_)
            ·
              refine z_aload_n dX9_odds_30 rfl (by omega) ?_
              refine y_geto (k' := 1) fl_X9_19 rfl dX9_odds_31 sh_1 (by decide) ht1 ?_
              refine y_geti (k' := 3) fl_X9_238 rfl dX9_odds_34 ts0 (by decide) rfl ?_
              refine z_iload_n dX9_odds_37 rfl ?_
              refine z_iload_n dX9_odds_38 rfl ?_
              refine z_callS (T := mX1_atMost) (As := [_, _, _]) kX1_atMost ml_X9_241 ⟨by decide, by decide⟩ dX9_odds_39 rfl rfl (Nat.le_of_ble_eq_true rfl) (Nat.le_refl _) (Nat.le_refl _) (qX1_atMost hg (by omega) (by omega) (by omega) (by omega) (by omega) ?_)
              refine z_istore dX9_odds_42 (by decide) rfl lss_7_4 ?_
              refine z_bipush dX9_odds_44 ⟨by decide, by decide⟩ ?_
              refine z_aload_n dX9_odds_46 rfl (by omega) ?_
              refine y_geto (k' := 1) fl_X9_19 rfl dX9_odds_47 sh_1 (by decide) ht1 ?_
              refine y_geti (k' := 3) fl_X9_238 rfl dX9_odds_50 ts0 (by decide) rfl ?_
              refine z_callS (T := mX1_power) (As := [_, _]) kX1_power ml_X9_247 ⟨by decide, by decide⟩ dX9_odds_53 rfl rfl (Nat.le_of_ble_eq_true rfl) (Nat.le_refl _) (Nat.le_refl _) (qX1_power hg (by omega) (by omega) (by omega) (by omega) ?_)
              refine z_istore dX9_odds_56 (by decide) rfl lss_7_5 ?_
              refine z_iconst dX9_odds_58 ⟨by decide, by decide⟩ ?_
              refine z_iload dX9_odds_59 rfl ?_
              refine z_iload dX9_odds_61 rfl ?_
              refine z_callS (T := mX1_commonDivisor) (As := [_, _]) kX1_commonDivisor ml_X9_250 ⟨by decide, by decide⟩ dX9_odds_63 rfl rfl (Nat.le_of_ble_eq_true rfl) (Nat.le_refl _) (Nat.le_refl _) (qX1_commonDivisor ?_)
              refine z_mmax kmax ml_X9_253 (by decide) (Nat.le_of_ble_eq_true rfl) (Nat.le_add_right _ _) (Nat.le_add_right _ _) dX9_odds_66 ?_
              refine z_istore dX9_odds_69 (by decide) rfl lss_7_6 ?_
              refine z_iload_n dX9_odds_71 rfl ?_
              refine z_if_ne (tgt := 80) dX9_odds_72 (by decide) (fun c72 => ?_) (fun c72 => ?_)
              ·
                refine z_iload dX9_odds_80 rfl ?_
                refine z_iload dX9_odds_82 rfl ?_
                refine z_idiv dX9_odds_84 (by omega) ?_
                refine z_ret (v := some (zi _)) dX9_odds_85 trivial (Nat.add_zero _).symm (Nat.add_zero _).symm rfl ?_
                first
                  | (rw [oddsC, if_pos (by omega), if_pos (by omega), if_pos (by omega), if_pos (by omega)] at hQ; exact hQ)
                  | (rw [oddsC, if_pos (by omega), if_pos (by omega), if_pos (by omega), if_neg (by omega)] at hQ; exact hQ)
              ·
                refine z_iload dX9_odds_75 rfl ?_
                refine z_goto (tgt := 82) dX9_odds_77 (by decide) ?_
                refine z_iload dX9_odds_82 rfl ?_
                refine z_idiv dX9_odds_84 (by omega) ?_
                refine z_ret (v := some (zi _)) dX9_odds_85 trivial (Nat.add_zero _).symm (Nat.add_zero _).symm rfl ?_
                first
                  | (rw [oddsC, if_pos (by omega), if_pos (by omega), if_pos (by omega), if_pos (by omega)] at hQ; exact hQ)
                  | (rw [oddsC, if_pos (by omega), if_pos (by omega), if_pos (by omega), if_neg (by omega)] at hQ; exact hQ)
            ·
              refine z_iconst dX9_odds_28 ⟨by decide, by decide⟩ ?_
              refine z_ret (v := some (zi _)) dX9_odds_29 trivial (Nat.add_zero _).symm (Nat.add_zero _).symm rfl ?_
              first
                | (rw [oddsC, if_neg (by omega)] at hQ; exact hQ)
                | (rw [oddsC, if_pos (by omega), if_neg (by omega)] at hQ; exact hQ)
                | (rw [oddsC, if_pos (by omega), if_pos (by omega), if_neg (by omega)] at hQ; exact hQ)
