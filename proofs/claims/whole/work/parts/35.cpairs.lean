/-! The class: pairs. -/
abbrev fitC (h : zH) (t : Int) : Int → Int → Bool := fun a b => decide (h 26 b ≤ h (t + 4) a ∧ h 26 a ≤ h (t + 4) b)
noncomputable abbrev tbC (h : zH) (t : Int) : Int → Int := tabC (fitC h t) (h t 2)
theorem qX0_canPair {l : Launch} {g h : zH} {Q : zQt} {t : Int} (hg : zGd g) (ht : t = 4 ∨ t = 14) {a b : Int} (a0 : 0 ≤ a) (a1 : a < 6) (b0 : 0 ≤ b) (b1 : b < 6) (h1 : (h 26 b ≤ h (t + 4) a ∧ h 26 a ≤ h (t + 4) b) → Q (some (zi 1)) (SHL, g) h) (h0 : ¬ (h 26 b ≤ h (t + 4) a ∧ h 26 a ≤ h (t + 4) b) → Q (some (zi 0)) (SHL, g) h) : zC l mX0_canPair [zi a, zi b, zr t, zr 24] (SHL, g) h Q := by
  obtain ⟨ts0, ts1, ts2, ts3, ts4, ts5, ts6, ts7, ts8, ts9, tg4, tg5, tg6, tg7, tg8, tg9, tg10, tg11, tg12⟩ := houseF hg ht
  refine z_method kX0_canPair.1 rfl (Nat.le_of_ble_eq_true rfl) (fun hok hh => ?_)
  refine z_aload_n dX0_canPair_0 rfl (by omega) ?_
  refine y_geta (k' := 7) fl_X0_57 rfl dX0_canPair_1 ts0 (by decide) tg7 ?_
  refine z_iload_n dX0_canPair_4 rfl ?_
  refine z_iaload dX0_canPair_5 ts4 (by omega) (by omega) rfl ?_
  refine z_aload_n dX0_canPair_6 rfl (by omega) ?_
  refine y_geta (k' := 1) fl_X0_60 rfl dX0_canPair_7 sh_24 (by decide) (gf_24_1 hg) ?_
  refine z_iload_n dX0_canPair_10 rfl ?_
  refine z_iaload dX0_canPair_11 sh_26 (by omega) (by omega) rfl ?_
  refine z_icmp_lt (tgt := 34) dX0_canPair_12 (by decide) (fun c12 => ?_) (fun c12 => ?_)
  ·
    refine z_iconst dX0_canPair_34 ⟨by decide, by decide⟩ ?_
    refine z_ret (v := some (zi _)) dX0_canPair_35 (Or.inl rfl) (Nat.add_zero _).symm (Nat.add_zero _).symm rfl ?_
    first | exact h1 (by omega) | exact h0 (by omega)
  ·
    refine z_aload_n dX0_canPair_15 rfl (by omega) ?_
    refine y_geta (k' := 7) fl_X0_57 rfl dX0_canPair_16 ts0 (by decide) tg7 ?_
    refine z_iload_n dX0_canPair_19 rfl ?_
    refine z_iaload dX0_canPair_20 ts4 (by omega) (by omega) rfl ?_
    refine z_aload_n dX0_canPair_21 rfl (by omega) ?_
    refine y_geta (k' := 1) fl_X0_60 rfl dX0_canPair_22 sh_24 (by decide) (gf_24_1 hg) ?_
    refine z_iload_n dX0_canPair_25 rfl ?_
    refine z_iaload dX0_canPair_26 sh_26 (by omega) (by omega) rfl ?_
    refine z_icmp_lt (tgt := 34) dX0_canPair_27 (by decide) (fun c27 => ?_) (fun c27 => ?_)
    ·
      refine z_iconst dX0_canPair_34 ⟨by decide, by decide⟩ ?_
      refine z_ret (v := some (zi _)) dX0_canPair_35 (Or.inl rfl) (Nat.add_zero _).symm (Nat.add_zero _).symm rfl ?_
      first | exact h1 (by omega) | exact h0 (by omega)
    ·
      refine z_iconst dX0_canPair_30 ⟨by decide, by decide⟩ ?_
      refine z_goto (tgt := 35) dX0_canPair_31 (by decide) ?_
      refine z_ret (v := some (zi _)) dX0_canPair_35 (Or.inr rfl) (Nat.add_zero _).symm (Nat.add_zero _).symm rfl ?_
      first | exact h1 (by omega) | exact h0 (by omega)
theorem lpX0_low {l : Launch} {g h : zH} {Q : zQt} {s : Int} (s0 : 0 < s) (s1 : s < 64) (hQ : Q (some (zi (low s))) (SHL, g) h) :
    ∀ (n i : Nat), i + n = 6 → fsN (fun k => decide (hasb s k)) n i = low s → zW zX0 l mX0_lowestOf ((SHL, g).1.length + zmc mX0_lowestOf) (ztot (SHL, g) + zms mX0_lowestOf) Q 2 [some (zi s), some (zi (i : Int))] [] (SHL, g) h := by
  have l9 := low_ok s s0 s1
  intro n
  induction n with
  | zero =>
    intro i hi hl
    have : (-9 : Int) = low s := hl
    omega
  | succ n ih =>
    intro i hi hl
    by_cases e9 : hasb s (i : Int)
    · have e8 : fsN (fun k => decide (hasb s k)) (n + 1) i = i := if_pos (decide_eq_true e9)
      rw [e8] at hl
      refine z_iload_n dX0_lowestOf_2 rfl ?_
      refine z_iconst dX0_lowestOf_3 ⟨by decide, by decide⟩ ?_
      refine z_icmp_ge (tgt := 21) dX0_lowestOf_4 (by decide) (fun c4 => ?_) (fun c4 => ?_)
      ·
        refine z_iload_n dX0_lowestOf_21 rfl ?_
        refine z_ret (v := some (zi _)) dX0_lowestOf_22 trivial (Nat.add_zero _).symm (Nat.add_zero _).symm rfl ?_
        rw [← hl] at hQ
        exact hQ
      ·
        refine z_iload_n dX0_lowestOf_7 rfl ?_
        refine z_iload_n dX0_lowestOf_8 rfl ?_
        refine z_callSN (T := mX9_has) (As := [_, _]) kX9_has ml_X0_35 ⟨by decide, by decide⟩ dX0_lowestOf_9 rfl rfl (Nat.le_of_ble_eq_true rfl) (Nat.le_refl _) (Nat.le_refl _) (qX9_has (fun b9 => ?_) (fun b9 => ?_))
        ·
          refine z_if_ne (tgt := 21) dX0_lowestOf_12 (by decide) (fun _ => ?_) (fun q => False.elim (by omega))
          refine z_iload_n dX0_lowestOf_21 rfl ?_
          refine z_ret (v := some (zi _)) dX0_lowestOf_22 trivial (Nat.add_zero _).symm (Nat.add_zero _).symm rfl ?_
          rw [← hl] at hQ
          exact hQ
        ·
          exact absurd e9 b9
    · have e8 : fsN (fun k => decide (hasb s k)) (n + 1) i = fsN (fun k => decide (hasb s k)) n ((i : Int) + 1) := if_neg (fun z => e9 (of_decide_eq_true z))
      rw [e8] at hl
      have n0 : 0 < n := by
        rcases Nat.eq_zero_or_pos n with z | z
        · subst z
          have : (-9 : Int) = low s := hl
          omega
        · exact z
      refine z_iload_n dX0_lowestOf_2 rfl ?_
      refine z_iconst dX0_lowestOf_3 ⟨by decide, by decide⟩ ?_
      refine z_icmp_ge (tgt := 21) dX0_lowestOf_4 (by decide) (fun q => False.elim (by omega)) (fun _ => ?_)
      refine z_iload_n dX0_lowestOf_7 rfl ?_
      refine z_iload_n dX0_lowestOf_8 rfl ?_
      refine z_callSN (T := mX9_has) (As := [_, _]) kX9_has ml_X0_35 ⟨by decide, by decide⟩ dX0_lowestOf_9 rfl rfl (Nat.le_of_ble_eq_true rfl) (Nat.le_refl _) (Nat.le_refl _) (qX9_has (fun b9 => ?_) (fun b9 => ?_))
      ·
        exact absurd b9 e9
      ·
        refine z_if_ne (tgt := 21) dX0_lowestOf_12 (by decide) (fun q => False.elim (by omega)) (fun _ => ?_)
        refine y_iinc dX0_lowestOf_15 (by decide) rfl rfl (by omega) (by omega) lss_2_1 ?_
        refine z_goto (tgt := 2) dX0_lowestOf_18 (by decide) ?_
        exact ih (i + 1) (by omega) hl
theorem qX0_lowestOf {l : Launch} {g h : zH} {Q : zQt}  {s : Int} (s0 : 0 < s) (s1 : s < 64) (hQ : Q (some (zi (low s))) (SHL, g) h) : zC l mX0_lowestOf [zi s] (SHL, g) h Q := by
  refine z_method kX0_lowestOf.1 rfl (Nat.le_of_ble_eq_true rfl) (fun hok hh => ?_)
  refine z_iconst dX0_lowestOf_0 ⟨by decide, by decide⟩ ?_
  refine z_istore_n dX0_lowestOf_1 (by decide) rfl lss_2_1 ?_
  exact lpX0_low s0 s1 hQ 6 0 rfl rfl
theorem lpX0_most {l : Launch} {g h : zH} {Q : zQt} {t s a v0 : Int} {T : Int → Int} (hg : zGd g) (ht : t = 4 ∨ t = 14) (m2 : 0 ≤ h t 2 ∧ h t 2 ≤ 6) (s0 : 0 < s) (s1 : s < 64) (a0 : 0 ≤ a) (a1 : a < 6) (ha : hasb s a) (hv : 0 ≤ v0 ∧ v0 ≤ s) (hT : ∀ x, 0 ≤ x → x < s → 0 ≤ T x ∧ T x ≤ x) (K : zW zX0 l mX0_mostOf ((SHL, g).1.length + zmc mX0_mostOf) (ztot (SHL, g) + zms mX0_mostOf) Q 91 [some (zr 99), some (zi s), some (zr t), some (zr 24), some (zi a), some (zi (clr s a)), some (zi (pacc (fitC h t) T s a v0 ((h t 2 - (a + 1)).toNat))), some (zi (a + 1 + (((h t 2 - (a + 1)).toNat : Nat) : Int)))] [] (SHL, g) (har h 100 64 T)) : ∀ (n i : Nat), i + n = (h t 2 - (a + 1)).toNat → zW zX0 l mX0_mostOf ((SHL, g).1.length + zmc mX0_mostOf) (ztot (SHL, g) + zms mX0_mostOf) Q 31 [some (zr 99), some (zi s), some (zr t), some (zr 24), some (zi a), some (zi (clr s a)), some (zi (pacc (fitC h t) T s a v0 i)), some (zi (a + 1 + (i : Int)))] [] (SHL, g) (har h 100 64 T) := by
  obtain ⟨ts0, ts1, ts2, ts3, ts4, ts5, ts6, ts7, ts8, ts9, tg4, tg5, tg6, tg7, tg8, tg9, tg10, tg11, tg12⟩ := houseF hg ht
  intro n
  induction n with
  | zero =>
    intro i hi 
    have e9 : i = (h t 2 - (a + 1)).toNat := by omega
    subst e9
    refine z_iload dX0_mostOf_31 rfl ?_
    refine z_aload_n dX0_mostOf_33 rfl (by omega) ?_
    refine y_geti (k' := 2) fl_X0_32 rfl dX0_mostOf_34 ts0 (by decide) (har_ne (by omega)) ?_
    refine z_icmp_ge (tgt := 91) dX0_mostOf_37 (by decide) (fun _ => ?_) (fun q => False.elim (by omega))
    exact K
  | succ n ih =>
    intro i hi 
    have c1 := clr_r s a (by omega) s1 a0 a1
    have c1l := c1.2.2.1 ha
    have c2 := clr_r (clr s a) (a + 1 + (i : Int)) c1.1 (by omega) (by omega) (by omega)
    have hx := hT (clr (clr s a) (a + 1 + (i : Int))) c2.1 (by omega)
    have fa := pacc_r (fit := fitC h t) (by omega) s1 a0 a1 (Or.inl ha) hv hT i (by omega)
    have ch := fun (_ : Unit) => clr_has s a (a + 1 + (i : Int)) (by omega) s1 a0 a1 (by omega) (by omega)
    have r1 : har h 100 64 T 26 (a + 1 + (i : Int)) = h 26 (a + 1 + (i : Int)) := har_ne (by omega)
    have r2 : har h 100 64 T (t + 4) a = h (t + 4) a := har_ne (by omega)
    have r3 : har h 100 64 T 26 a = h 26 a := har_ne (by omega)
    have r4 : har h 100 64 T (t + 4) (a + 1 + (i : Int)) = h (t + 4) (a + 1 + (i : Int)) := har_ne (by omega)
    refine z_iload dX0_mostOf_31 rfl ?_
    refine z_aload_n dX0_mostOf_33 rfl (by omega) ?_
    refine y_geti (k' := 2) fl_X0_32 rfl dX0_mostOf_34 ts0 (by decide) (har_ne (by omega)) ?_
    refine z_icmp_ge (tgt := 91) dX0_mostOf_37 (by decide) (fun q => False.elim (by omega)) (fun _ => ?_)
    refine z_iload dX0_mostOf_40 rfl ?_
    refine z_iload dX0_mostOf_42 rfl ?_
    refine z_callSN (T := mX9_has) (As := [_, _]) kX9_has ml_X0_35 ⟨by decide, by decide⟩ dX0_mostOf_44 rfl rfl (Nat.le_of_ble_eq_true rfl) (Nat.le_refl _) (Nat.le_refl _) (qX9_has (fun b44 => ?_) (fun b44 => ?_))
    ·
      refine z_if_eq (tgt := 85) dX0_mostOf_47 (by decide) (fun q => False.elim (by omega)) (fun _ => ?_)
      refine z_iload dX0_mostOf_50 rfl ?_
      refine z_iload dX0_mostOf_52 rfl ?_
      refine z_aload_n dX0_mostOf_54 rfl (by omega) ?_
      refine z_aload_n dX0_mostOf_55 rfl (by omega) ?_
      refine z_callS (T := mX0_canPair) (As := [_, _, _, _]) kX0_canPair ml_X0_47 ⟨by decide, by decide⟩ dX0_mostOf_56 rfl rfl (Nat.le_of_ble_eq_true rfl) (Nat.le_refl _) (Nat.le_refl _) (qX0_canPair hg ht (by omega) (by omega) (by omega) (by omega) (fun b56 => ?_) (fun b56 => ?_))
      ·
        rw [r1, r2, r3, r4] at b56
        refine z_if_eq (tgt := 85) dX0_mostOf_59 (by decide) (fun q => False.elim (by omega)) (fun _ => ?_)
        refine z_iload dX0_mostOf_62 rfl ?_
        refine z_iconst dX0_mostOf_64 ⟨by decide, by decide⟩ ?_
        refine z_aload_n dX0_mostOf_65 rfl (by omega) ?_
        refine y_geta (k' := 0) fl_X0_9 rfl dX0_mostOf_66 sh_99 (by decide) (gf_99_0 hg) ?_
        refine z_iload dX0_mostOf_69 rfl ?_
        refine z_iconst dX0_mostOf_71 ⟨by decide, by decide⟩ ?_
        refine z_iload dX0_mostOf_72 rfl ?_
        refine z_ishl dX0_mostOf_74 ?_
        refine z_iconst dX0_mostOf_75 ⟨by decide, by decide⟩ ?_
        refine z_ixor dX0_mostOf_76 ?_
        refine z_iand dX0_mostOf_77 ?_
        refine z_iaload dX0_mostOf_78 sh_100 (show 0 ≤ clr (clr s a) (a + 1 + (i : Int)) by omega) (show clr (clr s a) (a + 1 + (i : Int)) < ((64 : Nat) : Int) by omega) (show har h 100 64 T 100 (clr (clr s a) (a + 1 + (i : Int))) = T (clr (clr s a) (a + 1 + (i : Int))) from har_at (by omega) (by omega)) ?_
        refine y_iadd dX0_mostOf_79 (by omega) (by omega) ?_
        refine z_mmax kmax ml_X0_51 (by decide) (Nat.le_of_ble_eq_true rfl) (Nat.le_add_right _ _) (Nat.le_add_right _ _) dX0_mostOf_80 ?_
        refine z_istore dX0_mostOf_83 (by decide) rfl lss_8_6 ?_
        refine y_iinc dX0_mostOf_85 (by decide) rfl rfl (by omega) (by omega) lss_8_7 ?_
        refine z_goto (tgt := 31) dX0_mostOf_88 (by decide) ?_
        have q := ih (i + 1) (by omega)
        rw [show a + 1 + (((i + 1 : Nat)) : Int) = a + 1 + (i : Int) + 1 by omega] at q
        first
          | (rw [pacc_t ⟨((ch ()).mp b44).1, decide_eq_true b56⟩] at q; exact q)
          | (rw [pacc_f (fun z => b56 (of_decide_eq_true z.2))] at q; exact q)
          | (rw [pacc_f (fun z => b44 ((ch ()).mpr ⟨z.1, by omega⟩))] at q; exact q)
      ·
        rw [r1, r2, r3, r4] at b56
        refine z_if_eq (tgt := 85) dX0_mostOf_59 (by decide) (fun _ => ?_) (fun q => False.elim (by omega))
        refine y_iinc dX0_mostOf_85 (by decide) rfl rfl (by omega) (by omega) lss_8_7 ?_
        refine z_goto (tgt := 31) dX0_mostOf_88 (by decide) ?_
        have q := ih (i + 1) (by omega)
        rw [show a + 1 + (((i + 1 : Nat)) : Int) = a + 1 + (i : Int) + 1 by omega] at q
        first
          | (rw [pacc_t ⟨((ch ()).mp b44).1, decide_eq_true b56⟩] at q; exact q)
          | (rw [pacc_f (fun z => b56 (of_decide_eq_true z.2))] at q; exact q)
          | (rw [pacc_f (fun z => b44 ((ch ()).mpr ⟨z.1, by omega⟩))] at q; exact q)
    ·
      refine z_if_eq (tgt := 85) dX0_mostOf_47 (by decide) (fun _ => ?_) (fun q => False.elim (by omega))
      refine y_iinc dX0_mostOf_85 (by decide) rfl rfl (by omega) (by omega) lss_8_7 ?_
      refine z_goto (tgt := 31) dX0_mostOf_88 (by decide) ?_
      have q := ih (i + 1) (by omega)
      rw [show a + 1 + (((i + 1 : Nat)) : Int) = a + 1 + (i : Int) + 1 by omega] at q
      first
        | (rw [pacc_t ⟨((ch ()).mp b44).1, decide_eq_true b56⟩] at q; exact q)
        | (rw [pacc_f (fun z => b56 (of_decide_eq_true z.2))] at q; exact q)
        | (rw [pacc_f (fun z => b44 ((ch ()).mpr ⟨z.1, by omega⟩))] at q; exact q)
theorem qX0_mostOf {l : Launch} {g h : zH} {Q : zQt} {t : Int} (hg : zGd g) (ht : t = 4 ∨ t = 14) (m2 : 0 ≤ h t 2 ∧ h t 2 ≤ 6) {s : Int} {T : Int → Int} (s0 : 0 < s) (s1 : s < 64) (hT : ∀ x, 0 ≤ x → x < s → 0 ≤ T x ∧ T x ≤ x) (hQ : Q (some (zi (pval (fitC h t) (h t 2) T s))) (SHL, g) (har h 100 64 T)) : zC l mX0_mostOf [zr 99, zi s, zr t, zr 24] (SHL, g) (har h 100 64 T) Q := by
  obtain ⟨ts0, ts1, ts2, ts3, ts4, ts5, ts6, ts7, ts8, ts9, tg4, tg5, tg6, tg7, tg8, tg9, tg10, tg11, tg12⟩ := houseF hg ht
  refine z_method kX0_mostOf.1 rfl (Nat.le_of_ble_eq_true rfl) (fun hok hh => ?_)
  have l9 := low_ok s s0 s1
  have c1 := clr_r s (low s) (by omega) s1 l9.1 l9.2.1
  have c1l := c1.2.2.1 l9.2.2
  have hx := hT (clr s (low s)) c1.1 c1l
  refine z_iload_n dX0_mostOf_0 rfl ?_
  refine z_callS (T := mX0_lowestOf) (As := [_]) kX0_lowestOf ml_X0_43 ⟨by decide, by decide⟩ dX0_mostOf_1 rfl rfl (Nat.le_of_ble_eq_true rfl) (Nat.le_refl _) (Nat.le_refl _) (qX0_lowestOf (by omega) (by omega) ?_)
  refine z_istore dX0_mostOf_4 (by decide) rfl lss_8_4 ?_
  refine z_iload_n dX0_mostOf_6 rfl ?_
  refine z_iconst dX0_mostOf_7 ⟨by decide, by decide⟩ ?_
  refine z_iload dX0_mostOf_8 rfl ?_
  refine z_ishl dX0_mostOf_10 ?_
  refine z_iconst dX0_mostOf_11 ⟨by decide, by decide⟩ ?_
  refine z_ixor dX0_mostOf_12 ?_
  refine z_iand dX0_mostOf_13 ?_
  refine z_istore dX0_mostOf_14 (by decide) rfl lss_8_5 ?_
  refine z_aload_n dX0_mostOf_16 rfl (by omega) ?_
  refine y_geta (k' := 0) fl_X0_9 rfl dX0_mostOf_17 sh_99 (by decide) (gf_99_0 hg) ?_
  refine z_iload dX0_mostOf_20 rfl ?_
  refine z_iaload dX0_mostOf_22 sh_100 (show 0 ≤ clr s (low s) by omega) (show clr s (low s) < ((64 : Nat) : Int) by omega) (show har h 100 64 T 100 (clr s (low s)) = T (clr s (low s)) from har_at (by omega) (by omega)) ?_
  refine z_istore dX0_mostOf_23 (by decide) rfl lss_8_6 ?_
  refine z_iload dX0_mostOf_25 rfl ?_
  refine z_iconst dX0_mostOf_27 ⟨by decide, by decide⟩ ?_
  refine y_iadd dX0_mostOf_28 (by omega) (by omega) ?_
  refine z_istore dX0_mostOf_29 (by decide) rfl lss_8_7 ?_
  have K := lpX0_most (l := l) (Q := Q) (T := T) (v0 := T (clr s (low s))) hg ht m2 s0 s1 l9.1 l9.2.1 l9.2.2 (by omega) hT (by
    refine z_iload dX0_mostOf_91 rfl ?_
    refine z_ret (v := some (zi _)) dX0_mostOf_93 trivial (Nat.add_zero _).symm (Nat.add_zero _).symm rfl ?_
    rw [pval, if_neg (by omega)] at hQ
    exact hQ) _ 0 (Nat.zero_add _)
  rw [show low s + 1 + ((0 : Nat) : Int) = low s + 1 by omega] at K
  exact K
theorem pval_r {fit : Int → Int → Bool} {D : Int} {T : Int → Int} {s : Int} (hD : D ≤ 6) (s0 : 0 < s) (s1 : s < 64) (hT : ∀ x, 0 ≤ x → x < s → 0 ≤ T x ∧ T x ≤ x) : 0 ≤ pval fit D T s ∧ pval fit D T s ≤ s := by
  have l9 := low_ok s s0 s1
  have c1 := clr_r s (low s) (by omega) s1 l9.1 l9.2.1
  have c1l := c1.2.2.1 l9.2.2
  have hx := hT (clr s (low s)) c1.1 c1l
  unfold pval
  rw [if_neg (by omega)]
  exact pacc_r (by omega) s1 l9.1 l9.2.1 (Or.inl l9.2.2) (by omega) hT _ (by omega)
theorem SC_n {h X : zH} {t : Int} {u : Int → Int} (ht : t = 4 ∨ t = 14) (hX : SC h X) (k b : Int) (k0 : 0 ≤ k) (k1 : k ≤ 9) : har X 101 6 u (t + k) b = h (t + k) b := (har_ne (by omega)).trans (hX _ _ (by unfold cscr; omega))
theorem SC_26 {h X : zH} {u : Int → Int} (hX : SC h X) (b : Int) : har X 101 6 u 26 b = h 26 b := (har_ne (by omega)).trans (hX _ _ (by unfold cscr; omega))
theorem SC_t {h X : zH} {t : Int} {u : Int → Int} (ht : t = 4 ∨ t = 14) (hX : SC h X) (b : Int) : har X 101 6 u t b = h t b := (har_ne (by omega)).trans (hX _ _ (by unfold cscr; omega))
theorem lpX0_settle {l : Launch} {g h X : zH} {Q : zQt} {t left a : Int} {u : Int → Int} (hg : zGd g) (ht : t = 4 ∨ t = 14) (m2 : 0 ≤ h t 2 ∧ h t 2 ≤ 6) (hX : SC h X) (hT : ∀ s, 0 ≤ s → s < pw (h t 2) → X 100 s = tbC h t s) (hR : ∀ s, 0 ≤ s → s < pw (h t 2) → 0 ≤ tbC h t s ∧ tbC h t s ≤ s) (l0 : 0 ≤ left) (l1 : left < pw (h t 2)) (a0 : 0 ≤ a) (a1 : a < 6)
    (h1 : ¬ mateC (fitC h t) (tbC h t) (h t 2) left a = -9 → Q (some (zi (clr (clr left a) (mateC (fitC h t) (tbC h t) (h t 2) left a)))) (SHL, g) (har X 101 6 (fu (fu u a (mateC (fitC h t) (tbC h t) (h t 2) left a)) (mateC (fitC h t) (tbC h t) (h t 2) left a) a))) (h0 : mateC (fitC h t) (tbC h t) (h t 2) left a = -9 → Q (some (zi (clr left a))) (SHL, g) (har X 101 6 u)) :
    ∀ (n i : Nat) (x7 : Option zV), i + n = (h t 2 - (a + 1)).toNat → fsN (fun b => decide (hasb left b) && (fitC h t a b && decide (1 + tbC h t (clr (clr left a) b) = tbC h t left))) n (a + 1 + (i : Int)) = mateC (fitC h t) (tbC h t) (h t 2) left a → zW zX0 l mX0_settle ((SHL, g).1.length + zmc mX0_settle) (ztot (SHL, g) + zms mX0_settle) Q 14 [some (zr 99), some (zi a), some (zi left), some (zr t), some (zr 24), some (zi (clr left a)), some (zi (a + 1 + (i : Int))), x7] [] (SHL, g) (har X 101 6 u) := by
  obtain ⟨ts0, ts1, ts2, ts3, ts4, ts5, ts6, ts7, ts8, ts9, tg4, tg5, tg6, tg7, tg8, tg9, tg10, tg11, tg12⟩ := houseF hg ht
  have p1 := pw_le (n := h t 2) (by omega)
  intro n
  induction n with
  | zero =>
    intro i x7 hi hm
    have e9 : -9 = mateC (fitC h t) (tbC h t) (h t 2) left a := hm
    refine z_iload dX0_settle_14 rfl ?_
    refine z_aload_n dX0_settle_16 rfl (by omega) ?_
    refine y_geti (k' := 2) fl_X0_32 rfl dX0_settle_17 ts0 (by decide) (SC_t ht hX 2) ?_
    refine z_icmp_ge (tgt := 99) dX0_settle_20 (by decide) (fun _ => ?_) (fun q => False.elim (by omega))
    refine z_iload dX0_settle_99 rfl ?_
    refine z_ret (v := some (zi _)) dX0_settle_101 trivial (Nat.add_zero _).symm (Nat.add_zero _).symm rfl ?_
    exact h0 e9.symm
  | succ n ih =>
    intro i x7 hi hm
    have c1 := clr_r left a l0 (by omega) a0 a1
    have c2 := clr_r (clr left a) (a + 1 + (i : Int)) c1.1 (by omega) (by omega) (by omega)
    have ch := fun (_ : Unit) => clr_has left a (a + 1 + (i : Int)) l0 (by omega) a0 a1 (by omega) (by omega)
    have r1 : har X 101 6 u 26 (a + 1 + (i : Int)) = h 26 (a + 1 + (i : Int)) := SC_26 hX _
    have r2 : har X 101 6 u (t + 4) a = h (t + 4) a := SC_n ht hX 4 _ (by omega) (by omega)
    have r3 : har X 101 6 u 26 a = h 26 a := SC_26 hX _
    have r4 : har X 101 6 u (t + 4) (a + 1 + (i : Int)) = h (t + 4) (a + 1 + (i : Int)) := SC_n ht hX 4 _ (by omega) (by omega)
    have v1 := hR (clr (clr left a) (a + 1 + (i : Int))) c2.1 (by omega)
    have v2 := hR left l0 l1
    obtain ⟨vx, ex, vx0, vx1⟩ : ∃ vx, (∀ _ : Unit, tbC h t (clr (clr left a) (a + 1 + (i : Int))) = vx) ∧ 0 ≤ vx ∧ vx ≤ 64 := ⟨_, fun _ => rfl, v1.1, Int.le_trans v1.2 (by omega)⟩
    obtain ⟨vl, el, vl0, vl1⟩ : ∃ vx, (∀ _ : Unit, tbC h t left = vx) ∧ 0 ≤ vx ∧ vx ≤ 64 := ⟨_, fun _ => rfl, v2.1, Int.le_trans v2.2 (by omega)⟩
    clear v1 v2
    replace h1 := fun (_ : Unit) => h1
    replace h0 := fun (_ : Unit) => h0
    have e0 : fsN (fun b => decide (hasb left b) && (fitC h t a b && decide (1 + tbC h t (clr (clr left a) b) = tbC h t left))) (n + 1) (a + 1 + (i : Int)) = (if (fun b => decide (hasb left b) && (fitC h t a b && decide (1 + tbC h t (clr (clr left a) b) = tbC h t left))) (a + 1 + (i : Int)) = true then a + 1 + (i : Int) else fsN (fun b => decide (hasb left b) && (fitC h t a b && decide (1 + tbC h t (clr (clr left a) b) = tbC h t left))) n (a + 1 + (i : Int) + 1)) := rfl
    rw [e0] at hm
    replace hm := fun (_ : Unit) => hm
    clear e0
    refine z_iload dX0_settle_14 rfl ?_
    refine z_aload_n dX0_settle_16 rfl (by omega) ?_
    refine y_geti (k' := 2) fl_X0_32 rfl dX0_settle_17 ts0 (by decide) (SC_t ht hX 2) ?_
    refine z_icmp_ge (tgt := 99) dX0_settle_20 (by decide) (fun q => False.elim (by omega)) (fun _ => ?_)
    refine z_iload dX0_settle_23 rfl ?_
    refine z_iconst dX0_settle_25 ⟨by decide, by decide⟩ ?_
    refine z_iload dX0_settle_26 rfl ?_
    refine z_ishl dX0_settle_28 ?_
    refine z_iconst dX0_settle_29 ⟨by decide, by decide⟩ ?_
    refine z_ixor dX0_settle_30 ?_
    refine z_iand dX0_settle_31 ?_
    refine z_istore dX0_settle_32 (by decide) rfl lss_8_7 ?_
    refine z_iload dX0_settle_34 rfl ?_
    refine z_iload dX0_settle_36 rfl ?_
    refine z_callSN (T := mX9_has) (As := [_, _]) kX9_has ml_X0_35 ⟨by decide, by decide⟩ dX0_settle_38 rfl rfl (Nat.le_of_ble_eq_true rfl) (Nat.le_refl _) (Nat.le_refl _) (qX9_has (fun b38 => ?_) (fun b38 => ?_))
    ·
      refine z_if_eq (tgt := 93) dX0_settle_41 (by decide) (fun q => False.elim (by omega)) (fun _ => ?_)
      refine z_iload_n dX0_settle_44 rfl ?_
      refine z_iload dX0_settle_45 rfl ?_
      refine z_aload_n dX0_settle_47 rfl (by omega) ?_
      refine z_aload dX0_settle_48 rfl (by omega) ?_
      refine z_callS (T := mX0_canPair) (As := [_, _, _, _]) kX0_canPair ml_X0_47 ⟨by decide, by decide⟩ dX0_settle_50 rfl rfl (Nat.le_of_ble_eq_true rfl) (Nat.le_refl _) (Nat.le_refl _) (qX0_canPair hg ht (by omega) (by omega) (by omega) (by omega) (fun b50 => ?_) (fun b50 => ?_))
      ·
        rw [r1, r2, r3, r4] at b50
        refine z_if_eq (tgt := 93) dX0_settle_53 (by decide) (fun q => False.elim (by omega)) (fun _ => ?_)
        refine z_iconst dX0_settle_56 ⟨by decide, by decide⟩ ?_
        refine z_aload_n dX0_settle_57 rfl (by omega) ?_
        refine y_geta (k' := 0) fl_X0_9 rfl dX0_settle_58 sh_99 (by decide) (gf_99_0 hg) ?_
        refine z_iload dX0_settle_61 rfl ?_
        refine z_iaload dX0_settle_63 sh_100 (show 0 ≤ clr (clr left a) (a + 1 + (i : Int)) by omega) (show clr (clr left a) (a + 1 + (i : Int)) < ((64 : Nat) : Int) by omega) (show har X 101 6 u 100 (clr (clr left a) (a + 1 + (i : Int))) = vx from (har_ne (by omega)).trans ((hT _ (by omega) (by omega)).trans (ex ()))) ?_
        refine y_iadd dX0_settle_64 (by omega) (by omega) ?_
        refine z_aload_n dX0_settle_65 rfl (by omega) ?_
        refine y_geta (k' := 0) fl_X0_9 rfl dX0_settle_66 sh_99 (by decide) (gf_99_0 hg) ?_
        refine z_iload_n dX0_settle_69 rfl ?_
        refine z_iaload dX0_settle_70 sh_100 (by omega) (by omega) (show har X 101 6 u 100 left = vl from (har_ne (by omega)).trans ((hT _ (by omega) (by omega)).trans (el ()))) ?_
        refine z_icmp_ne (tgt := 93) dX0_settle_71 (by decide) (fun c71 => ?_) (fun c71 => ?_)
        ·
          refine y_iinc dX0_settle_93 (by decide) rfl rfl (by omega) (by omega) lss_8_6 ?_
          refine z_goto (tgt := 14) dX0_settle_96 (by decide) ?_
          have key : ¬ (fun b => decide (hasb left b) && (fitC h t a b && decide (1 + tbC h t (clr (clr left a) b) = tbC h t left))) (a + 1 + (i : Int)) = true := fun z => by
            have z1 := of_decide_eq_true (Bool.and_eq_true_iff.mp z).1
            have z2 := of_decide_eq_true (Bool.and_eq_true_iff.mp (Bool.and_eq_true_iff.mp z).2).1
            have z3 := of_decide_eq_true (Bool.and_eq_true_iff.mp (Bool.and_eq_true_iff.mp z).2).2
            rw [ex (), el ()] at z3
            first
              | exact b38 ((ch ()).mpr ⟨z1, by omega⟩)
              | exact b50 z2
              | (clear z; omega)
          replace hm := hm ()
          rw [if_neg key] at hm
          have q := ih (i + 1)
          rw [show a + 1 + (((i + 1 : Nat)) : Int) = a + 1 + (i : Int) + 1 by omega] at q
          exact q _ (by omega) hm
        ·
          refine z_aload_n dX0_settle_74 rfl (by omega) ?_
          refine y_geta (k' := 1) fl_X0_15 rfl dX0_settle_75 sh_99 (by decide) (gf_99_1 hg) ?_
          refine z_iload_n dX0_settle_78 rfl ?_
          refine z_iload dX0_settle_79 rfl ?_
          refine z_iastore dX0_settle_81 sh_101 (by omega) (by omega) ?_
          refine z_aload_n dX0_settle_82 rfl (by omega) ?_
          refine y_geta (k' := 1) fl_X0_15 rfl dX0_settle_83 sh_99 (by decide) (gf_99_1 hg) ?_
          refine z_iload dX0_settle_86 rfl ?_
          refine z_iload_n dX0_settle_88 rfl ?_
          refine z_iastore dX0_settle_89 sh_101 (by omega) (by omega) ?_
          refine z_iload dX0_settle_90 rfl ?_
          refine z_ret (v := some (zi _)) dX0_settle_92 trivial (Nat.add_zero _).symm (Nat.add_zero _).symm rfl ?_
          have key : (fun b => decide (hasb left b) && (fitC h t a b && decide (1 + tbC h t (clr (clr left a) b) = tbC h t left))) (a + 1 + (i : Int)) = true := Bool.and_eq_true_iff.mpr ⟨decide_eq_true ((ch ()).mp b38).1, Bool.and_eq_true_iff.mpr ⟨decide_eq_true b50, decide_eq_true (by rw [ex (), el ()]; omega)⟩⟩
          replace hm := hm ()
          rw [if_pos key] at hm
          rw [har_up a0 (by omega), har_up (by omega) (by omega)]
          replace h1 := h1 ()
          rw [← hm] at h1
          exact h1 (by omega)
      ·
        rw [r1, r2, r3, r4] at b50
        refine z_if_eq (tgt := 93) dX0_settle_53 (by decide) (fun _ => ?_) (fun q => False.elim (by omega))
        refine y_iinc dX0_settle_93 (by decide) rfl rfl (by omega) (by omega) lss_8_6 ?_
        refine z_goto (tgt := 14) dX0_settle_96 (by decide) ?_
        have key : ¬ (fun b => decide (hasb left b) && (fitC h t a b && decide (1 + tbC h t (clr (clr left a) b) = tbC h t left))) (a + 1 + (i : Int)) = true := fun z => by
          have z1 := of_decide_eq_true (Bool.and_eq_true_iff.mp z).1
          have z2 := of_decide_eq_true (Bool.and_eq_true_iff.mp (Bool.and_eq_true_iff.mp z).2).1
          have z3 := of_decide_eq_true (Bool.and_eq_true_iff.mp (Bool.and_eq_true_iff.mp z).2).2
          rw [ex (), el ()] at z3
          first
            | exact b38 ((ch ()).mpr ⟨z1, by omega⟩)
            | exact b50 z2
            | (clear z; omega)
        replace hm := hm ()
        rw [if_neg key] at hm
        have q := ih (i + 1)
        rw [show a + 1 + (((i + 1 : Nat)) : Int) = a + 1 + (i : Int) + 1 by omega] at q
        exact q _ (by omega) hm
    ·
      refine z_if_eq (tgt := 93) dX0_settle_41 (by decide) (fun _ => ?_) (fun q => False.elim (by omega))
      refine y_iinc dX0_settle_93 (by decide) rfl rfl (by omega) (by omega) lss_8_6 ?_
      refine z_goto (tgt := 14) dX0_settle_96 (by decide) ?_
      have key : ¬ (fun b => decide (hasb left b) && (fitC h t a b && decide (1 + tbC h t (clr (clr left a) b) = tbC h t left))) (a + 1 + (i : Int)) = true := fun z => by
        have z1 := of_decide_eq_true (Bool.and_eq_true_iff.mp z).1
        have z2 := of_decide_eq_true (Bool.and_eq_true_iff.mp (Bool.and_eq_true_iff.mp z).2).1
        have z3 := of_decide_eq_true (Bool.and_eq_true_iff.mp (Bool.and_eq_true_iff.mp z).2).2
        rw [ex (), el ()] at z3
        first
          | exact b38 ((ch ()).mpr ⟨z1, by omega⟩)
          | exact b50 z2
          | (clear z; omega)
      replace hm := hm ()
      rw [if_neg key] at hm
      have q := ih (i + 1)
      rw [show a + 1 + (((i + 1 : Nat)) : Int) = a + 1 + (i : Int) + 1 by omega] at q
      exact q _ (by omega) hm
theorem qX0_settle {l : Launch} {g h : zH} {Q : zQt} {t : Int} (hg : zGd g) (ht : t = 4 ∨ t = 14) {X : zH} {left a : Int} {u : Int → Int} (m2 : 0 ≤ h t 2 ∧ h t 2 ≤ 6) (hX : SC h X) (hT : ∀ s, 0 ≤ s → s < pw (h t 2) → X 100 s = tbC h t s) (hR : ∀ s, 0 ≤ s → s < pw (h t 2) → 0 ≤ tbC h t s ∧ tbC h t s ≤ s) (l0 : 0 ≤ left) (l1 : left < pw (h t 2)) (a0 : 0 ≤ a) (a1 : a < 6) (h1 : ¬ mateC (fitC h t) (tbC h t) (h t 2) left a = -9 → Q (some (zi (clr (clr left a) (mateC (fitC h t) (tbC h t) (h t 2) left a)))) (SHL, g) (har X 101 6 (fu (fu u a (mateC (fitC h t) (tbC h t) (h t 2) left a)) (mateC (fitC h t) (tbC h t) (h t 2) left a) a))) (h0 : mateC (fitC h t) (tbC h t) (h t 2) left a = -9 → Q (some (zi (clr left a))) (SHL, g) (har X 101 6 u)) : zC l mX0_settle [zr 99, zi a, zi left, zr t, zr 24] (SHL, g) (har X 101 6 u) Q := by
  obtain ⟨ts0, ts1, ts2, ts3, ts4, ts5, ts6, ts7, ts8, ts9, tg4, tg5, tg6, tg7, tg8, tg9, tg10, tg11, tg12⟩ := houseF hg ht
  refine z_method kX0_settle.1 rfl (Nat.le_of_ble_eq_true rfl) (fun hok hh => ?_)
  refine z_iload_n dX0_settle_0 rfl ?_
  refine z_iconst dX0_settle_1 ⟨by decide, by decide⟩ ?_
  refine z_iload_n dX0_settle_2 rfl ?_
  refine z_ishl dX0_settle_3 ?_
  refine z_iconst dX0_settle_4 ⟨by decide, by decide⟩ ?_
  refine z_ixor dX0_settle_5 ?_
  refine z_iand dX0_settle_6 ?_
  refine z_istore dX0_settle_7 (by decide) rfl lss_8_5 ?_
  refine z_iload_n dX0_settle_9 rfl ?_
  refine z_iconst dX0_settle_10 ⟨by decide, by decide⟩ ?_
  refine y_iadd dX0_settle_11 (by omega) (by omega) ?_
  refine z_istore dX0_settle_12 (by decide) rfl lss_8_6 ?_
  have K := lpX0_settle (l := l) hg ht m2 hX hT hR l0 l1 a0 a1 h1 h0 _ 0 none (Nat.zero_add _)
  rw [show a + 1 + ((0 : Nat) : Int) = a + 1 by omega] at K
  exact K rfl
/-- who is left, and the partners, behind the first n -/
noncomputable def cpC (h : zH) (t : Int) : Nat → Int × (Int → Int)
  | 0 => (pw (h t 2) - 1, fun _ => -9)
  | a + 1 => if hasb (cpC h t a).1 a then (if mateC (fitC h t) (tbC h t) (h t 2) (cpC h t a).1 a = -9 then (clr (cpC h t a).1 a, (cpC h t a).2) else (clr (clr (cpC h t a).1 a) (mateC (fitC h t) (tbC h t) (h t 2) (cpC h t a).1 a), fu (fu (cpC h t a).2 a (mateC (fitC h t) (tbC h t) (h t 2) (cpC h t a).1 a)) (mateC (fitC h t) (tbC h t) (h t 2) (cpC h t a).1 a) a)) else cpC h t a
theorem cpC_n {h : zH} {t : Int} {a : Nat} (e : ¬ hasb (cpC h t a).1 a) : cpC h t (a + 1) = cpC h t a := if_neg e
theorem cpC_0 {h : zH} {t : Int} {a : Nat} (e : hasb (cpC h t a).1 a) (e2 : mateC (fitC h t) (tbC h t) (h t 2) (cpC h t a).1 a = -9) : cpC h t (a + 1) = (clr (cpC h t a).1 a, (cpC h t a).2) := (if_pos e).trans (if_pos e2)
theorem cpC_1 {h : zH} {t : Int} {a : Nat} (e : hasb (cpC h t a).1 a) (e2 : ¬ mateC (fitC h t) (tbC h t) (h t 2) (cpC h t a).1 a = -9) : cpC h t (a + 1) = (clr (clr (cpC h t a).1 a) (mateC (fitC h t) (tbC h t) (h t 2) (cpC h t a).1 a), fu (fu (cpC h t a).2 a (mateC (fitC h t) (tbC h t) (h t 2) (cpC h t a).1 a)) (mateC (fitC h t) (tbC h t) (h t 2) (cpC h t a).1 a) a) := (if_pos e).trans (if_neg e2)
theorem mate_r (fit : Int → Int → Bool) (T : Int → Int) {D left a : Int} (a0 : 0 ≤ a) (ha : a < D) : mateC fit T D left a = -9 ∨ (a + 1 ≤ mateC fit T D left a ∧ mateC fit T D left a < D) := by
  have q := fsN_r (f := fun b => decide (hasb left b) && (fit a b && decide (1 + T (clr (clr left a) b) = T left))) (D - (a + 1)).toNat (a + 1)
  have q2 : a + 1 = -9 ∨ ¬ (a + 1 = -9) := by omega
  unfold mateC
  have := q (by omega)
  omega
theorem cpC_r {h : zH} {t : Int} (m2 : 0 ≤ h t 2 ∧ h t 2 ≤ 6) : ∀ a : Nat, (a : Int) ≤ h t 2 → 0 ≤ (cpC h t a).1 ∧ (cpC h t a).1 < pw (h t 2) := by
  have p1 := pw_le (n := h t 2) (by omega)
  have p2 := pw_pos (h t 2)
  intro a
  induction a with
  | zero => intro _; show 0 ≤ pw (h t 2) - 1 ∧ pw (h t 2) - 1 < pw (h t 2); omega
  | succ a ih =>
    intro ha
    have i := ih (by omega)
    have c1 := clr_r (cpC h t a).1 a i.1 (by omega) (by omega) (by omega)
    by_cases e : hasb (cpC h t a).1 a
    · have mr := mate_r (fitC h t) (tbC h t) (left := (cpC h t a).1) (show (0 : Int) ≤ a by omega) (show (a : Int) < h t 2 by omega)
      by_cases e2 : mateC (fitC h t) (tbC h t) (h t 2) (cpC h t a).1 a = -9
      · rw [cpC_0 e e2]; show 0 ≤ clr (cpC h t a).1 a ∧ clr (cpC h t a).1 a < _; omega
      · rw [cpC_1 e e2]
        have c2 := clr_r (clr (cpC h t a).1 a) (mateC (fitC h t) (tbC h t) (h t 2) (cpC h t a).1 a) c1.1 (by omega) (by omega) (by omega)
        show 0 ≤ clr (clr (cpC h t a).1 a) (mateC (fitC h t) (tbC h t) (h t 2) (cpC h t a).1 a) ∧ clr (clr (cpC h t a).1 a) (mateC (fitC h t) (tbC h t) (h t 2) (cpC h t a).1 a) < _
        omega
    · rw [cpC_n e]; exact i
theorem lpX0_find1 {l : Launch} {g h : zH} {Q : zQt} {t : Int} {x5 : Option zV} (hg : zGd g) (ht : t = 4 ∨ t = 14) (m2 : 0 ≤ h t 2 ∧ h t 2 ≤ 6) (K : ∀ T, TabN (fitC h t) (h t 2) T (pw (h t 2)) → zW zX0 l mX0_find ((SHL, g).1.length + zmc mX0_find) (ztot (SHL, g) + zms mX0_find) Q 42 [some (zr 99), some (zr t), some (zr 24), some (zi (pw (h t 2) - 1)), some (zi (pw (h t 2))), x5] [] (SHL, g) (har h 100 64 T)) :
    ∀ (n i : Nat) (T : Int → Int), 1 ≤ i → i + n = (pw (h t 2)).toNat → TabN (fitC h t) (h t 2) T i → zW zX0 l mX0_find ((SHL, g).1.length + zmc mX0_find) (ztot (SHL, g) + zms mX0_find) Q 15 [some (zr 99), some (zr t), some (zr 24), some (zi (pw (h t 2) - 1)), some (zi (i : Int)), x5] [] (SHL, g) (har h 100 64 T) := by
  obtain ⟨ts0, ts1, ts2, ts3, ts4, ts5, ts6, ts7, ts8, ts9, tg4, tg5, tg6, tg7, tg8, tg9, tg10, tg11, tg12⟩ := houseF hg ht
  have p1 := pw_le (n := h t 2) (by omega)
  have p2 := pw_pos (h t 2)
  intro n
  induction n with
  | zero =>
    intro i T i1 hi hT
    have e9 : (i : Int) = pw (h t 2) := by omega
    rw [e9] at hT ⊢
    refine z_iload dX0_find_15 rfl ?_
    refine z_iload_n dX0_find_17 rfl ?_
    refine z_icmp_gt (tgt := 42) dX0_find_18 (by decide) (fun _ => ?_) (fun q => False.elim (by omega))
    exact K T hT
  | succ n ih =>
    intro i T i1 hi hT
    have hta := fun x (x0 : 0 ≤ x) (x1 : x < (i : Int)) => (hT x x0 x1).2
    have pr := pval_r (fit := fitC h t) m2.2 (show 0 < (i : Int) by omega) (by omega) hta
    refine z_iload dX0_find_15 rfl ?_
    refine z_iload_n dX0_find_17 rfl ?_
    refine z_icmp_gt (tgt := 42) dX0_find_18 (by decide) (fun q => False.elim (by omega)) (fun _ => ?_)
    refine z_aload_n dX0_find_21 rfl (by omega) ?_
    refine y_geta (k' := 0) fl_X0_9 rfl dX0_find_22 sh_99 (by decide) (gf_99_0 hg) ?_
    refine z_iload dX0_find_25 rfl ?_
    refine z_aload_n dX0_find_27 rfl (by omega) ?_
    refine z_iload dX0_find_28 rfl ?_
    refine z_aload_n dX0_find_30 rfl (by omega) ?_
    refine z_aload_n dX0_find_31 rfl (by omega) ?_
    refine z_callV (T := mX0_mostOf) (As := [_, _, _]) kX0_mostOf ml_X0_24 ⟨by decide, by decide⟩ dX0_find_32 rfl rfl (Nat.le_of_ble_eq_true rfl) sh_99 ⟨by decide, rfl⟩ (Nat.le_refl _) (Nat.le_refl _) (qX0_mostOf hg ht m2 (by omega) (by omega) hta ?_)
    refine z_iastore dX0_find_35 sh_100 (by omega) (by omega) ?_
    refine y_iinc dX0_find_36 (by decide) rfl rfl (by omega) (by omega) lss_6_4 ?_
    refine z_goto (tgt := 15) dX0_find_39 (by decide) ?_
    rw [har_up (by omega) (by omega)]
    exact ih (i + 1) _ (by omega) (by omega) (TabN_fu m2.2 (by omega) (by omega) hT rfl pr)
theorem lpX0_find2 {l : Launch} {g h : zH} {Q : zQt} {t : Int} {X : zH} (hg : zGd g) (ht : t = 4 ∨ t = 14) (K : ∀ (x5 : Option zV), zW zX0 l mX0_find ((SHL, g).1.length + zmc mX0_find) (ztot (SHL, g) + zms mX0_find) Q 77 [some (zr 99), some (zr t), some (zr 24), some (zi (pw (h t 2) - 1)), some (zi ((6 : Nat) : Int)), x5] [] (SHL, g) (har X 101 (6) (fun _ => -9))) : ∀ (n i : Nat), i + n = 6 → ∀ (x5 : Option zV), zW zX0 l mX0_find ((SHL, g).1.length + zmc mX0_find) (ztot (SHL, g) + zms mX0_find) Q 55 [some (zr 99), some (zr t), some (zr 24), some (zi (pw (h t 2) - 1)), some (zi (i : Int)), x5] [] (SHL, g) (har X 101 i (fun _ => -9)) := by
  obtain ⟨ts0, ts1, ts2, ts3, ts4, ts5, ts6, ts7, ts8, ts9, tg4, tg5, tg6, tg7, tg8, tg9, tg10, tg11, tg12⟩ := houseF hg ht
  intro n
  induction n with
  | zero =>
    intro i hi x5
    have e9 : i = 6 := by omega
    subst e9
    refine z_iload dX0_find_55 rfl ?_
    refine z_bipush dX0_find_57 ⟨by decide, by decide⟩ ?_
    refine z_icmp_ge (tgt := 77) dX0_find_59 (by decide) (fun _ => ?_) (fun q => False.elim (by omega))
    exact K _
  | succ n ih =>
    intro i hi x5
    refine z_iload dX0_find_55 rfl ?_
    refine z_bipush dX0_find_57 ⟨by decide, by decide⟩ ?_
    refine z_icmp_ge (tgt := 77) dX0_find_59 (by decide) (fun q => False.elim (by omega)) (fun _ => ?_)
    refine z_aload_n dX0_find_62 rfl (by omega) ?_
    refine y_geta (k' := 1) fl_X0_15 rfl dX0_find_63 sh_99 (by decide) (gf_99_1 hg) ?_
    refine z_iload dX0_find_66 rfl ?_
    refine z_bipush dX0_find_68 ⟨by decide, by decide⟩ ?_
    refine z_iastore dX0_find_70 sh_101 (by omega) (by omega) ?_
    refine y_iinc dX0_find_71 (by decide) rfl rfl (by omega) (by omega) lss_6_4 ?_
    refine z_goto (tgt := 55) dX0_find_74 (by decide) ?_
    have q := ih (i + 1) (by omega)
    rw [har_succ] at q
    exact q _
theorem lpX0_find3 {l : Launch} {g h X : zH} {Q : zQt} {t : Int} (hg : zGd g) (ht : t = 4 ∨ t = 14) (m2 : 0 ≤ h t 2 ∧ h t 2 ≤ 6) (hX : SC h X) (hT : ∀ s, 0 ≤ s → s < pw (h t 2) → X 100 s = tbC h t s) (hR : ∀ s, 0 ≤ s → s < pw (h t 2) → 0 ≤ tbC h t s ∧ tbC h t s ≤ s) (hQ : Q none (SHL, g) (har X 101 6 (cpC h t (h t 2).toNat).2)) :
    ∀ (n i : Nat), i + n = (h t 2).toNat → zW zX0 l mX0_find ((SHL, g).1.length + zmc mX0_find) (ztot (SHL, g) + zms mX0_find) Q 83 [some (zr 99), some (zr t), some (zr 24), some (zi (pw (h t 2) - 1)), some (zi (cpC h t i).1), some (zi (i : Int))] [] (SHL, g) (har X 101 6 (cpC h t i).2) := by
  obtain ⟨ts0, ts1, ts2, ts3, ts4, ts5, ts6, ts7, ts8, ts9, tg4, tg5, tg6, tg7, tg8, tg9, tg10, tg11, tg12⟩ := houseF hg ht
  have p1 := pw_le (n := h t 2) (by omega)
  intro n
  induction n with
  | zero =>
    intro i hi
    have e9 : i = (h t 2).toNat := by omega
    subst e9
    refine z_iload dX0_find_83 rfl ?_
    refine z_aload_n dX0_find_85 rfl (by omega) ?_
    refine y_geti (k' := 2) fl_X0_32 rfl dX0_find_86 ts0 (by decide) (SC_t ht hX 2) ?_
    refine z_icmp_ge (tgt := 120) dX0_find_89 (by decide) (fun _ => ?_) (fun q => False.elim (by omega))
    refine z_ret (v := none) dX0_find_120 trivial (Nat.add_zero _).symm (Nat.add_zero _).symm rfl ?_
    exact hQ
  | succ n ih =>
    intro i hi
    have f1 := cpC_r m2 i (by omega)
    have q := ih (i + 1) (by omega)
    refine z_iload dX0_find_83 rfl ?_
    refine z_aload_n dX0_find_85 rfl (by omega) ?_
    refine y_geti (k' := 2) fl_X0_32 rfl dX0_find_86 ts0 (by decide) (SC_t ht hX 2) ?_
    refine z_icmp_ge (tgt := 120) dX0_find_89 (by decide) (fun q => False.elim (by omega)) (fun _ => ?_)
    refine z_iload dX0_find_92 rfl ?_
    refine z_iload dX0_find_94 rfl ?_
    refine z_callSN (T := mX9_has) (As := [_, _]) kX9_has ml_X0_35 ⟨by decide, by decide⟩ dX0_find_96 rfl rfl (Nat.le_of_ble_eq_true rfl) (Nat.le_refl _) (Nat.le_refl _) (qX9_has (fun b96 => ?_) (fun b96 => ?_))
    ·
      refine z_if_eq (tgt := 114) dX0_find_99 (by decide) (fun q => False.elim (by omega)) (fun _ => ?_)
      refine z_aload_n dX0_find_102 rfl (by omega) ?_
      refine z_iload dX0_find_103 rfl ?_
      refine z_iload dX0_find_105 rfl ?_
      refine z_aload_n dX0_find_107 rfl (by omega) ?_
      refine z_aload_n dX0_find_108 rfl (by omega) ?_
      refine z_callV (T := mX0_settle) (As := [_, _, _, _]) kX0_settle ml_X0_39 ⟨by decide, by decide⟩ dX0_find_109 rfl rfl (Nat.le_of_ble_eq_true rfl) sh_99 ⟨by decide, rfl⟩ (Nat.le_refl _) (Nat.le_refl _) (qX0_settle hg ht m2 hX hT hR f1.1 f1.2 (by omega) (by omega) (fun b109 => ?_) (fun b109 => ?_))
      · rw [cpC_1 b96 b109] at q
        refine z_istore dX0_find_112 (by decide) rfl lss_6_4 ?_
        refine y_iinc dX0_find_114 (by decide) rfl rfl (by omega) (by omega) lss_6_5 ?_
        refine z_goto (tgt := 83) dX0_find_117 (by decide) ?_
        exact q
      · rw [cpC_0 b96 b109] at q
        refine z_istore dX0_find_112 (by decide) rfl lss_6_4 ?_
        refine y_iinc dX0_find_114 (by decide) rfl rfl (by omega) (by omega) lss_6_5 ?_
        refine z_goto (tgt := 83) dX0_find_117 (by decide) ?_
        exact q
    ·
      rw [cpC_n b96] at q
      refine z_if_eq (tgt := 114) dX0_find_99 (by decide) (fun _ => ?_) (fun q => False.elim (by omega))
      refine y_iinc dX0_find_114 (by decide) rfl rfl (by omega) (by omega) lss_6_5 ?_
      refine z_goto (tgt := 83) dX0_find_117 (by decide) ?_
      exact q
theorem SC_trans {h h1 h2 : zH} (a : SC h h1) (b : SC h1 h2) : SC h h2 := fun x y q => (b x y q).trans (a x y q)
theorem SC_har {h : zH} {A : Int} {n : Nat} {f : Int → Int} (hA : A = 97 ∨ A = 98 ∨ A = 100 ∨ A = 101) : SC h (har h A n f) := fun a b q => har_ne (fun e => q (by unfold cscr; omega))
theorem SC_zup {h : zH} {r k v : Int} (hr : cscr r k) : SC h (zup h r k v) := fun a b q => zup_ne (fun e => q (by rw [e.1, e.2]; exact hr))
theorem qX0_find {l : Launch} {g h : zH} {Q : zQt} {t : Int} (hg : zGd g) (ht : t = 4 ∨ t = 14) (m2 : 0 ≤ h t 2 ∧ h t 2 ≤ 6) (hQ : ∀ h', SC h h' → h' 99 2 = tbC h t (pw (h t 2) - 1) → (∀ d, 0 ≤ d → d < h t 2 → h' 101 d = (cpC h t (h t 2).toNat).2 d) → Q none (SHL, g) h') : zC l mX0_find [zr 99, zr t, zr 24] (SHL, g) h Q := by
  obtain ⟨ts0, ts1, ts2, ts3, ts4, ts5, ts6, ts7, ts8, ts9, tg4, tg5, tg6, tg7, tg8, tg9, tg10, tg11, tg12⟩ := houseF hg ht
  refine z_method kX0_find.1 rfl (Nat.le_of_ble_eq_true rfl) (fun hok hh => ?_)
  have p1 := pw_le (n := h t 2) (by omega)
  have p2 := pw_pos (h t 2)
  refine z_aload_n dX0_find_0 rfl (by omega) ?_
  refine z_callV (T := mX4_allDirectors) (As := []) kX4_allDirectors ml_X0_18 ⟨by decide, by decide⟩ dX0_find_1 rfl rfl (Nat.le_of_ble_eq_true rfl) ts0 ⟨by decide, rfl⟩ (Nat.le_refl _) (Nat.le_refl _) (qX4_allDirectors hg ht m2 ?_)
  refine z_istore_n dX0_find_4 (by decide) rfl lss_6_3 ?_
  refine z_aload_n dX0_find_5 rfl (by omega) ?_
  refine y_geta (k' := 0) fl_X0_9 rfl dX0_find_6 sh_99 (by decide) (gf_99_0 hg) ?_
  refine z_iconst dX0_find_9 ⟨by decide, by decide⟩ ?_
  refine z_iconst dX0_find_10 ⟨by decide, by decide⟩ ?_
  refine z_iastore dX0_find_11 sh_100 (by omega) (by omega) ?_
  refine z_iconst dX0_find_12 ⟨by decide, by decide⟩ ?_
  refine z_istore dX0_find_13 (by decide) rfl lss_6_4 ?_
  rw [show zup h 100 0 0 = har h 100 64 (fu (h 100) 0 0) from (congrArg (fun H => zup H 100 0 0) (har_self h 100 64).symm).trans (har_up (by decide) (by decide))]
  refine lpX0_find1 (l := l) (Q := Q) hg ht m2 (fun T hT => ?_) ((pw (h t 2)).toNat - 1) 1 _ (Nat.le_refl 1) (by omega) (TabN_fu (t := h 100) m2.2 (Int.le_refl 0) (by decide) (fun s s0 s1 => by omega) (show (0 : Int) = pval (fitC h t) (h t 2) (h 100) 0 from (if_pos rfl).symm) ⟨Int.le_refl 0, Int.le_refl 0⟩)
  have tr : ∀ s, 0 ≤ s → s < pw (h t 2) → 0 ≤ tbC h t s ∧ tbC h t s ≤ s := fun s s0 s1 => tabC_r hT s0 s1
  have te : ∀ s, 0 ≤ s → s < pw (h t 2) → T s = tbC h t s := fun s s0 s1 => tabC_eq m2.2 hT s0 s1
  refine z_aload_n dX0_find_42 rfl (by omega) ?_
  refine z_aload_n dX0_find_43 rfl (by omega) ?_
  refine y_geta (k' := 0) fl_X0_9 rfl dX0_find_44 sh_99 (by decide) (gf_99_0 hg) ?_
  refine z_iload_n dX0_find_47 rfl ?_
  refine z_iaload dX0_find_48 sh_100 (by omega) (by omega) ((har_at (by omega) (by omega)).trans (te _ (by omega) (by omega))) ?_
  refine y_puti (k' := 2) fl_X0_28 rfl dX0_find_49 sh_99 (by decide)  ?_
  refine z_iconst dX0_find_52 ⟨by decide, by decide⟩ ?_
  refine z_istore dX0_find_53 (by decide) rfl lss_6_4 ?_
  have K2 := lpX0_find2 (l := l) (g := g) (h := h) (t := t) (Q := Q) (X := zup (har h 100 64 T) 99 2 (tbC h t (pw (h t 2) - 1))) hg ht (fun x5 => by
    refine z_iload_n dX0_find_77 rfl ?_
    refine z_istore dX0_find_78 (by decide) rfl lss_6_4 ?_
    refine z_iconst dX0_find_80 ⟨by decide, by decide⟩ ?_
    refine z_istore dX0_find_81 (by decide) rfl lss_6_5 ?_
    refine lpX0_find3 (l := l) hg ht m2 (SC_trans (SC_har (by omega)) (SC_zup (by unfold cscr; omega))) (fun s s0 s1 => (zup_ne (by omega)).trans ((har_at s0 (by omega)).trans (te s s0 s1))) tr ?_ _ 0 (Nat.zero_add _)
    exact hQ _ (SC_trans (SC_trans (SC_har (by omega)) (SC_zup (by unfold cscr; omega))) (SC_har (by omega))) ((har_ne (by decide)).trans (zup_same _ _ _ _)) (fun d d0 d1 => har_at d0 (by omega))) _ 0 (Nat.zero_add _)
  rw [har_0] at K2
  exact K2 _
noncomputable def pairC (h : zH) (t d : Int) : Int := if d = -1 then tbC h t (pw (h t 2) - 1) else if 0 ≤ d ∧ d < h t 2 then (cpC h t (h t 2).toNat).2 d else -1
theorem qX9_pair {l : Launch} {g h : zH} {Q : zQt} {t : Int} (hg : zGd g) (ht : t = 4 ∨ t = 14) (ht1 : g 1 1 = t) (hc : CB h t) {d : Int} (hQ : ∀ h', SC h h' → Q (some (zi (pairC h t d))) (SHL, g) h') : zC l mX9_pair [zr 1, zi d] (SHL, g) h Q := by
  obtain ⟨ts0, ts1, ts2, ts3, ts4, ts5, ts6, ts7, ts8, ts9, tg4, tg5, tg6, tg7, tg8, tg9, tg10, tg11, tg12⟩ := houseF hg ht
  obtain ⟨⟨⟨m0, m1, m2, m3⟩, mp, md, mn⟩, ⟨nd, nc, nl⟩, ck, cs, cpp, cl, ct⟩ := id hc
  refine z_method kX9_pair.1 rfl (Nat.le_of_ble_eq_true rfl) (fun hok hh => ?_)
  refine z_iload_n dX9_pair_0 rfl ?_
  refine z_iconst dX9_pair_1 ⟨by decide, by decide⟩ ?_
  refine z_icmp_eq (tgt := 18) dX9_pair_2 (by decide) (fun c2 => ?_) (fun c2 => ?_)
  ·
    refine z_aload_n dX9_pair_18 rfl (by omega) ?_
    refine y_geto (k' := 8) fl_X9_63 rfl dX9_pair_19 sh_1 (by decide) (gf_1_8 hg) ?_
    refine z_aload_n dX9_pair_22 rfl (by omega) ?_
    refine y_geto (k' := 1) fl_X9_19 rfl dX9_pair_23 sh_1 (by decide) ht1 ?_
    refine z_aload_n dX9_pair_26 rfl (by omega) ?_
    refine y_geto (k' := 3) fl_X9_29 rfl dX9_pair_27 sh_1 (by decide) (gf_1_3 hg) ?_
    refine z_callV (T := mX0_find) (As := [_, _]) kX0_find ml_X9_228 ⟨by decide, by decide⟩ dX9_pair_30 rfl rfl (Nat.le_of_ble_eq_true rfl) sh_99 ⟨by decide, rfl⟩ (Nat.le_refl _) (Nat.le_refl _) (qX0_find hg ht m2 (fun h9 s9 e8 e9 => ?_))
    refine z_iload_n dX9_pair_33 rfl ?_
    refine z_iconst dX9_pair_34 ⟨by decide, by decide⟩ ?_
    refine z_icmp_ne (tgt := 48) dX9_pair_35 (by decide) (fun c35 => ?_) (fun c35 => ?_)
    ·
      refine z_aload_n dX9_pair_48 rfl (by omega) ?_
      refine y_geto (k' := 8) fl_X9_63 rfl dX9_pair_49 sh_1 (by decide) (gf_1_8 hg) ?_
      refine y_geta (k' := 1) fl_X9_235 rfl dX9_pair_52 sh_99 (by decide) (gf_99_1 hg) ?_
      refine z_iload_n dX9_pair_55 rfl ?_
      refine z_iaload dX9_pair_56 sh_101 (by omega) (by omega) (e9 d (by omega) (by omega)) ?_
      refine z_ret (v := some (zi _)) dX9_pair_57 trivial (Nat.add_zero _).symm (Nat.add_zero _).symm rfl ?_
      replace hQ := hQ h9 s9
      first
        | (rw [pairC, if_pos (by assumption)] at hQ; exact hQ)
        | (rw [pairC, if_neg (by assumption), if_pos b10] at hQ; exact hQ)
        | exact absurd c2 c35
    ·
      refine z_aload_n dX9_pair_38 rfl (by omega) ?_
      refine y_geto (k' := 8) fl_X9_63 rfl dX9_pair_39 sh_1 (by decide) (gf_1_8 hg) ?_
      refine y_geti (k' := 2) fl_X9_232 rfl dX9_pair_42 sh_99 (by decide) e8 ?_
      refine z_goto (tgt := 57) dX9_pair_45 (by decide) ?_
      refine z_ret (v := some (zi _)) dX9_pair_57 trivial (Nat.add_zero _).symm (Nat.add_zero _).symm rfl ?_
      replace hQ := hQ h9 s9
      first
        | (rw [pairC, if_pos (by assumption)] at hQ; exact hQ)
        | (rw [pairC, if_neg (by assumption), if_pos b10] at hQ; exact hQ)
        | exact absurd c2 c35
  ·
    refine z_aload_n dX9_pair_5 rfl (by omega) ?_
    refine y_geto (k' := 1) fl_X9_19 rfl dX9_pair_6 sh_1 (by decide) ht1 ?_
    refine z_iload_n dX9_pair_9 rfl ?_
    refine z_callV (T := mX4_hasDirector) (As := [_]) kX4_hasDirector ml_X9_115 ⟨by decide, by decide⟩ dX9_pair_10 rfl rfl (Nat.le_of_ble_eq_true rfl) ts0 ⟨by decide, rfl⟩ (Nat.le_refl _) (Nat.le_refl _) (qX4_hasDirector hg ht (fun b10 => ?_) (fun b10 => ?_))
    ·
      refine z_if_ne (tgt := 18) dX9_pair_13 (by decide) (fun _ => ?_) (fun q => False.elim (by omega))
      refine z_aload_n dX9_pair_18 rfl (by omega) ?_
      refine y_geto (k' := 8) fl_X9_63 rfl dX9_pair_19 sh_1 (by decide) (gf_1_8 hg) ?_
      refine z_aload_n dX9_pair_22 rfl (by omega) ?_
      refine y_geto (k' := 1) fl_X9_19 rfl dX9_pair_23 sh_1 (by decide) ht1 ?_
      refine z_aload_n dX9_pair_26 rfl (by omega) ?_
      refine y_geto (k' := 3) fl_X9_29 rfl dX9_pair_27 sh_1 (by decide) (gf_1_3 hg) ?_
      refine z_callV (T := mX0_find) (As := [_, _]) kX0_find ml_X9_228 ⟨by decide, by decide⟩ dX9_pair_30 rfl rfl (Nat.le_of_ble_eq_true rfl) sh_99 ⟨by decide, rfl⟩ (Nat.le_refl _) (Nat.le_refl _) (qX0_find hg ht m2 (fun h9 s9 e8 e9 => ?_))
      refine z_iload_n dX9_pair_33 rfl ?_
      refine z_iconst dX9_pair_34 ⟨by decide, by decide⟩ ?_
      refine z_icmp_ne (tgt := 48) dX9_pair_35 (by decide) (fun c35 => ?_) (fun c35 => ?_)
      ·
        refine z_aload_n dX9_pair_48 rfl (by omega) ?_
        refine y_geto (k' := 8) fl_X9_63 rfl dX9_pair_49 sh_1 (by decide) (gf_1_8 hg) ?_
        refine y_geta (k' := 1) fl_X9_235 rfl dX9_pair_52 sh_99 (by decide) (gf_99_1 hg) ?_
        refine z_iload_n dX9_pair_55 rfl ?_
        refine z_iaload dX9_pair_56 sh_101 (by omega) (by omega) (e9 d (by omega) (by omega)) ?_
        refine z_ret (v := some (zi _)) dX9_pair_57 trivial (Nat.add_zero _).symm (Nat.add_zero _).symm rfl ?_
        replace hQ := hQ h9 s9
        first
          | (rw [pairC, if_pos (by assumption)] at hQ; exact hQ)
          | (rw [pairC, if_neg (by assumption), if_pos b10] at hQ; exact hQ)
          | exact absurd c2 c35
      ·
        refine z_aload_n dX9_pair_38 rfl (by omega) ?_
        refine y_geto (k' := 8) fl_X9_63 rfl dX9_pair_39 sh_1 (by decide) (gf_1_8 hg) ?_
        refine y_geti (k' := 2) fl_X9_232 rfl dX9_pair_42 sh_99 (by decide) e8 ?_
        refine z_goto (tgt := 57) dX9_pair_45 (by decide) ?_
        refine z_ret (v := some (zi _)) dX9_pair_57 trivial (Nat.add_zero _).symm (Nat.add_zero _).symm rfl ?_
        replace hQ := hQ h9 s9
        first
          | (rw [pairC, if_pos (by assumption)] at hQ; exact hQ)
          | (rw [pairC, if_neg (by assumption), if_pos b10] at hQ; exact hQ)
          | exact absurd c2 c35
    ·
      refine z_if_ne (tgt := 18) dX9_pair_13 (by decide) (fun q => False.elim (by omega)) (fun _ => ?_)
      refine z_iconst dX9_pair_16 ⟨by decide, by decide⟩ ?_
      refine z_ret (v := some (zi _)) dX9_pair_17 trivial (Nat.add_zero _).symm (Nat.add_zero _).symm rfl ?_
      replace hQ := hQ h (SC_refl h)
      rw [pairC, if_neg (by omega), if_neg b10] at hQ
      exact hQ
