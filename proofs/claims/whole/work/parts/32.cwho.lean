/-! The class: who it was; the text; marks; the edge. -/
theorem mayCS_r {h : zH} {t : Int} (m2 : 0 ≤ h t 2 ∧ h t 2 ≤ 6) (p : Int) : 0 ≤ mayCS h t p ∧ mayCS h t p < 64 := by
  have a := bset_r (f := fun d => decide (mayC h t d p)) (h t 2).toNat (by omega)
  have b := pw_le (n := ((h t 2).toNat : Int)) (by omega)
  unfold mayCS
  omega
def whoCk (h : zH) (t : Int) : Nat → Int
  | 0 => pw (h t 2) - 1
  | k + 1 => band (whoCk h t k) (if h 95 k = 1 then mayCS h t (h 94 k) else bxor (mayCS h t (h 94 k)) (-1))
theorem whoCk_r {h : zH} {t : Int} (m2 : 0 ≤ h t 2 ∧ h t 2 ≤ 6) : ∀ k : Nat, 0 ≤ whoCk h t k ∧ whoCk h t k < 64 := by
  intro k
  induction k with
  | zero =>
    have a := pw_le m2.2
    have b := pw_pos (h t 2)
    show 0 ≤ pw (h t 2) - 1 ∧ pw (h t 2) - 1 < 64
    omega
  | succ k ih =>
    have a := mayCS_r (h := h) (t := t) m2 (h 94 k)
    have b := band_r (whoCk h t k) (mayCS h t (h 94 k)) ih.1 ih.2 a.1 a.2
    have c := bnot_r (whoCk h t k) (mayCS h t (h 94 k)) ih.1 ih.2 a.1 a.2
    unfold whoCk
    split <;> omega
theorem whoCk_t {h : zH} {t : Int} {k : Nat} (e : h 95 k = 1) : whoCk h t (k + 1) = band (whoCk h t k) (mayCS h t (h 94 k)) := congrArg (band (whoCk h t k)) (if_pos e)
theorem whoCk_f {h : zH} {t : Int} {k : Nat} (e : ¬ h 95 k = 1) : whoCk h t (k + 1) = band (whoCk h t k) (bxor (mayCS h t (h 94 k)) (-1)) := congrArg (band (whoCk h t k)) (if_neg e)
def whoC (h : zH) (t : Int) : Int := whoCk h t (h 93 2).toNat
theorem lpX9_who {l : Launch} {g h : zH} {Q : zQt} {t : Int} (hg : zGd g) (ht : t = 4 ∨ t = 14) (ht1 : g 1 1 = t) (hc : CB h t) (K : ∀ (x3 : Option zV), zW zX0 l mX9_who ((SHL, g).1.length + zmc mX9_who) (ztot (SHL, g) + zms mX9_who) Q 64 [some (zr 1), some (zi (whoCk h t ((h 93 2).toNat))), some (zi (((h 93 2).toNat : Nat) : Int)), x3] [] (SHL, g) (h)) : ∀ (n i : Nat), i + n = (h 93 2).toNat → ∀ (x3 : Option zV), zW zX0 l mX9_who ((SHL, g).1.length + zmc mX9_who) (ztot (SHL, g) + zms mX9_who) Q 10 [some (zr 1), some (zi (whoCk h t i)), some (zi (i : Int)), x3] [] (SHL, g) (h) := by
  obtain ⟨ts0, ts1, ts2, ts3, ts4, ts5, ts6, ts7, ts8, ts9, tg4, tg5, tg6, tg7, tg8, tg9, tg10, tg11, tg12⟩ := houseF hg ht
  obtain ⟨⟨⟨m0, m1, m2, m3⟩, mp, md, mn⟩, ⟨nd, nc, nl⟩, ck, cs, cpp, cl, ct⟩ := id hc
  intro n
  induction n with
  | zero =>
    intro i hi x3
    have e9 : i = (h 93 2).toNat := by omega
    subst e9
    refine z_iload_n dX9_who_10 rfl ?_
    refine z_aload_n dX9_who_11 rfl (by omega) ?_
    refine y_geto (k' := 6) fl_X9_49 rfl dX9_who_12 sh_1 (by decide) (gf_1_6 hg) ?_
    refine y_geti (k' := 2) fl_X9_91 rfl dX9_who_15 sh_93 (by decide) rfl ?_
    refine z_icmp_ge (tgt := 64) dX9_who_18 (by decide) (fun _ => ?_) (fun q => False.elim (by omega))
    exact K _
  | succ n ih =>
    intro i hi x3
    have f1 := cpp i (by omega) (by omega)
    refine z_iload_n dX9_who_10 rfl ?_
    refine z_aload_n dX9_who_11 rfl (by omega) ?_
    refine y_geto (k' := 6) fl_X9_49 rfl dX9_who_12 sh_1 (by decide) (gf_1_6 hg) ?_
    refine y_geti (k' := 2) fl_X9_91 rfl dX9_who_15 sh_93 (by decide) rfl ?_
    refine z_icmp_ge (tgt := 64) dX9_who_18 (by decide) (fun q => False.elim (by omega)) (fun _ => ?_)
    refine z_aload_n dX9_who_21 rfl (by omega) ?_
    refine z_aload_n dX9_who_22 rfl (by omega) ?_
    refine y_geto (k' := 6) fl_X9_49 rfl dX9_who_23 sh_1 (by decide) (gf_1_6 hg) ?_
    refine y_geta (k' := 0) fl_X9_259 rfl dX9_who_26 sh_93 (by decide) (gf_93_0 hg) ?_
    refine z_iload_n dX9_who_29 rfl ?_
    refine z_iaload dX9_who_30 sh_94 (by omega) (by omega) rfl ?_
    refine z_callV (T := mX9_whoMayGo) (As := [_]) kX9_whoMayGo ml_X9_111 ⟨by decide, by decide⟩ dX9_who_31 rfl rfl (Nat.le_of_ble_eq_true rfl) sh_1 ⟨by decide, rfl⟩ (Nat.le_refl _) (Nat.le_refl _) (qX9_whoMayGo hg ht ht1 hc (by omega) (by omega) ?_)
    refine z_istore_n dX9_who_34 (by decide) rfl lss_4_3 ?_
    refine z_iload_n dX9_who_35 rfl ?_
    refine z_aload_n dX9_who_36 rfl (by omega) ?_
    refine y_geto (k' := 6) fl_X9_49 rfl dX9_who_37 sh_1 (by decide) (gf_1_6 hg) ?_
    refine y_geta (k' := 1) fl_X9_262 rfl dX9_who_40 sh_93 (by decide) (gf_93_1 hg) ?_
    refine z_iload_n dX9_who_43 rfl ?_
    refine z_iaload dX9_who_44 sh_95 (by omega) (by omega) rfl ?_
    refine z_iconst dX9_who_45 ⟨by decide, by decide⟩ ?_
    refine z_icmp_ne (tgt := 53) dX9_who_46 (by decide) (fun c46 => ?_) (fun c46 => ?_)
    ·
      refine z_iload_n dX9_who_53 rfl ?_
      refine z_iconst dX9_who_54 ⟨by decide, by decide⟩ ?_
      refine z_ixor dX9_who_55 ?_
      refine z_iand dX9_who_56 ?_
      refine z_istore_n dX9_who_57 (by decide) rfl lss_4_1 ?_
      refine y_iinc dX9_who_58 (by decide) rfl rfl (by omega) (by omega) lss_4_2 ?_
      refine z_goto (tgt := 10) dX9_who_61 (by decide) ?_
      have q := ih (i + 1) (by omega)
      first
        | (rw [whoCk_t (by omega)] at q; exact q _)
        | (rw [whoCk_f (by omega)] at q; exact q _)
    ·
      refine z_iload_n dX9_who_49 rfl ?_
      refine z_goto (tgt := 56) dX9_who_50 (by decide) ?_
      refine z_iand dX9_who_56 ?_
      refine z_istore_n dX9_who_57 (by decide) rfl lss_4_1 ?_
      refine y_iinc dX9_who_58 (by decide) rfl rfl (by omega) (by omega) lss_4_2 ?_
      refine z_goto (tgt := 10) dX9_who_61 (by decide) ?_
      have q := ih (i + 1) (by omega)
      first
        | (rw [whoCk_t (by omega)] at q; exact q _)
        | (rw [whoCk_f (by omega)] at q; exact q _)
theorem qX9_who {l : Launch} {g h : zH} {Q : zQt} {t : Int} (hg : zGd g) (ht : t = 4 ∨ t = 14) (ht1 : g 1 1 = t) (hc : CB h t) (hQ : Q (some (zi (whoC h t))) (SHL, g) h) : zC l mX9_who [zr 1] (SHL, g) h Q := by
  obtain ⟨ts0, ts1, ts2, ts3, ts4, ts5, ts6, ts7, ts8, ts9, tg4, tg5, tg6, tg7, tg8, tg9, tg10, tg11, tg12⟩ := houseF hg ht
  obtain ⟨⟨⟨m0, m1, m2, m3⟩, mp, md, mn⟩, ⟨nd, nc, nl⟩, ck, cs, cpp, cl, ct⟩ := id hc
  refine z_method kX9_who.1 rfl (Nat.le_of_ble_eq_true rfl) (fun hok hh => ?_)
  refine z_aload_n dX9_who_0 rfl (by omega) ?_
  refine y_geto (k' := 1) fl_X9_19 rfl dX9_who_1 sh_1 (by decide) ht1 ?_
  refine z_callV (T := mX4_allDirectors) (As := []) kX4_allDirectors ml_X9_225 ⟨by decide, by decide⟩ dX9_who_4 rfl rfl (Nat.le_of_ble_eq_true rfl) ts0 ⟨by decide, rfl⟩ (Nat.le_refl _) (Nat.le_refl _) (qX4_allDirectors hg ht m2 ?_)
  refine z_istore_n dX9_who_7 (by decide) rfl lss_4_1 ?_
  refine z_iconst dX9_who_8 ⟨by decide, by decide⟩ ?_
  refine z_istore_n dX9_who_9 (by decide) rfl lss_4_2 ?_
  refine lpX9_who hg ht ht1 hc (fun x3 => ?_) _ 0 (Nat.zero_add _) _
  refine z_iload_n dX9_who_64 rfl ?_
  refine z_ret (v := some (zi _)) dX9_who_65 trivial (Nat.add_zero _).symm (Nat.add_zero _).symm rfl ?_
  exact hQ
def askCg (h : zH) (t s p : Int) : Int := popc (band s (mayCS h t p))
def askC (h : zH) (t s : Int) : Nat → Int × Int
  | 0 => (-9, popc s)
  | n + 1 => if max (askCg h t s n) (popc s - askCg h t s n) < (askC h t s n).2 then (n, max (askCg h t s n) (popc s - askCg h t s n)) else askC h t s n
theorem askC_t {h : zH} {t s : Int} {n : Nat} (hc : max (askCg h t s n) (popc s - askCg h t s n) < (askC h t s n).2) : askC h t s (n + 1) = ((n : Int), max (askCg h t s n) (popc s - askCg h t s n)) := if_pos hc
theorem askC_f {h : zH} {t s : Int} {n : Nat} (hc : ¬ max (askCg h t s n) (popc s - askCg h t s n) < (askC h t s n).2) : askC h t s (n + 1) = askC h t s n := if_neg hc
theorem lpX9_ask {l : Launch} {g h : zH} {Q : zQt} {t s : Int} (hg : zGd g) (ht : t = 4 ∨ t = 14) (ht1 : g 1 1 = t) (hc : CB h t) (s0 : 0 ≤ s) (s1 : s < 64) (K : ∀ (x6 x7 : Option zV), zW zX0 l mX9_ask ((SHL, g).1.length + zmc mX9_ask) (ztot (SHL, g) + zms mX9_ask) Q 75 [some (zr 1), some (zi s), some (zi (popc s)), some (zi (askC h t s ((h t 1).toNat)).1), some (zi (askC h t s ((h t 1).toNat)).2), some (zi (((h t 1).toNat : Nat) : Int)), x6, x7] [] (SHL, g) (h)) : ∀ (n i : Nat), i + n = (h t 1).toNat → ∀ (x6 x7 : Option zV), zW zX0 l mX9_ask ((SHL, g).1.length + zmc mX9_ask) (ztot (SHL, g) + zms mX9_ask) Q 19 [some (zr 1), some (zi s), some (zi (popc s)), some (zi (askC h t s i).1), some (zi (askC h t s i).2), some (zi (i : Int)), x6, x7] [] (SHL, g) (h) := by
  obtain ⟨ts0, ts1, ts2, ts3, ts4, ts5, ts6, ts7, ts8, ts9, tg4, tg5, tg6, tg7, tg8, tg9, tg10, tg11, tg12⟩ := houseF hg ht
  obtain ⟨⟨⟨m0, m1, m2, m3⟩, mp, md, mn⟩, ⟨nd, nc, nl⟩, ck, cs, cpp, cl, ct⟩ := id hc
  intro n
  induction n with
  | zero =>
    intro i hi x6 x7
    have e9 : i = (h t 1).toNat := by omega
    subst e9
    refine z_iload dX9_ask_19 rfl ?_
    refine z_aload_n dX9_ask_21 rfl (by omega) ?_
    refine y_geto (k' := 1) fl_X9_19 rfl dX9_ask_22 sh_1 (by decide) ht1 ?_
    refine y_geti (k' := 1) fl_X9_273 rfl dX9_ask_25 ts0 (by decide) rfl ?_
    refine z_icmp_ge (tgt := 75) dX9_ask_28 (by decide) (fun _ => ?_) (fun q => False.elim (by omega))
    exact K _ _
  | succ n ih =>
    intro i hi x6 x7
    have f1 := mayCS_r (h := h) (t := t) m2 i
    have f2 := band_r s (mayCS h t i) s0 s1 f1.1 f1.2
    have f3 := popc_r (band s (mayCS h t i))
    have f4 := popc_r s
    have e5 : askCg h t s i = popc (band s (mayCS h t i)) := rfl
    refine z_iload dX9_ask_19 rfl ?_
    refine z_aload_n dX9_ask_21 rfl (by omega) ?_
    refine y_geto (k' := 1) fl_X9_19 rfl dX9_ask_22 sh_1 (by decide) ht1 ?_
    refine y_geti (k' := 1) fl_X9_273 rfl dX9_ask_25 ts0 (by decide) rfl ?_
    refine z_icmp_ge (tgt := 75) dX9_ask_28 (by decide) (fun q => False.elim (by omega)) (fun _ => ?_)
    refine z_iload_n dX9_ask_31 rfl ?_
    refine z_aload_n dX9_ask_32 rfl (by omega) ?_
    refine z_iload dX9_ask_33 rfl ?_
    refine z_callV (T := mX9_whoMayGo) (As := [_]) kX9_whoMayGo ml_X9_111 ⟨by decide, by decide⟩ dX9_ask_35 rfl rfl (Nat.le_of_ble_eq_true rfl) sh_1 ⟨by decide, rfl⟩ (Nat.le_refl _) (Nat.le_refl _) (qX9_whoMayGo hg ht ht1 hc (by omega) (by omega) ?_)
    refine z_iand dX9_ask_38 ?_
    refine z_callS (T := mJ6_bitCount_0f7a4) (As := [_]) kJ6_bitCount_0f7a4 ml_X9_268 ⟨by decide, by decide⟩ dX9_ask_39 rfl rfl (Nat.le_of_ble_eq_true rfl) (Nat.le_refl _) (Nat.le_refl _) (qJ6_bitCount_0f7a4 (by omega) (by omega) ?_)
    refine z_istore dX9_ask_42 (by decide) rfl lss_8_6 ?_
    refine z_iload dX9_ask_44 rfl ?_
    refine z_iload_n dX9_ask_46 rfl ?_
    refine z_iload dX9_ask_47 rfl ?_
    refine y_isub dX9_ask_49 (by omega) (by omega) ?_
    refine z_mmax kmax ml_X9_253 (by decide) (Nat.le_of_ble_eq_true rfl) (Nat.le_add_right _ _) (Nat.le_add_right _ _) dX9_ask_50 ?_
    refine z_istore dX9_ask_53 (by decide) rfl lss_8_7 ?_
    refine z_iload dX9_ask_55 rfl ?_
    refine z_iload dX9_ask_57 rfl ?_
    refine z_icmp_ge (tgt := 69) dX9_ask_59 (by decide) (fun c59 => ?_) (fun c59 => ?_)
    ·
      refine y_iinc dX9_ask_69 (by decide) rfl rfl (by omega) (by omega) lss_8_5 ?_
      refine z_goto (tgt := 19) dX9_ask_72 (by decide) ?_
      have q := ih (i + 1) (by omega)
      first
        | (rw [askC_t (by omega)] at q; exact q _ _)
        | (rw [askC_f (by omega)] at q; exact q _ _)
    ·
      refine z_iload dX9_ask_62 rfl ?_
      refine z_istore dX9_ask_64 (by decide) rfl lss_8_4 ?_
      refine z_iload dX9_ask_66 rfl ?_
      refine z_istore_n dX9_ask_68 (by decide) rfl lss_8_3 ?_
      refine y_iinc dX9_ask_69 (by decide) rfl rfl (by omega) (by omega) lss_8_5 ?_
      refine z_goto (tgt := 19) dX9_ask_72 (by decide) ?_
      have q := ih (i + 1) (by omega)
      first
        | (rw [askC_t (by omega)] at q; exact q _ _)
        | (rw [askC_f (by omega)] at q; exact q _ _)
theorem qX9_ask {l : Launch} {g h : zH} {Q : zQt} {t : Int} (hg : zGd g) (ht : t = 4 ∨ t = 14) (ht1 : g 1 1 = t) (hc : CB h t) (hQ : Q (some (zi (askC h t (whoC h t) (h t 1).toNat).1)) (SHL, g) h) : zC l mX9_ask [zr 1] (SHL, g) h Q := by
  obtain ⟨ts0, ts1, ts2, ts3, ts4, ts5, ts6, ts7, ts8, ts9, tg4, tg5, tg6, tg7, tg8, tg9, tg10, tg11, tg12⟩ := houseF hg ht
  obtain ⟨⟨⟨m0, m1, m2, m3⟩, mp, md, mn⟩, ⟨nd, nc, nl⟩, ck, cs, cpp, cl, ct⟩ := id hc
  refine z_method kX9_ask.1 rfl (Nat.le_of_ble_eq_true rfl) (fun hok hh => ?_)
  have wr : 0 ≤ whoC h t ∧ whoC h t < 64 := whoCk_r m2 (h 93 2).toNat
  refine z_aload_n dX9_ask_0 rfl (by omega) ?_
  refine z_callV (T := mX9_who) (As := []) kX9_who ml_X9_265 ⟨by decide, by decide⟩ dX9_ask_1 rfl rfl (Nat.le_of_ble_eq_true rfl) sh_1 ⟨by decide, rfl⟩ (Nat.le_refl _) (Nat.le_refl _) (qX9_who hg ht ht1 hc ?_)
  refine z_istore_n dX9_ask_4 (by decide) rfl lss_8_1 ?_
  refine z_iload_n dX9_ask_5 rfl ?_
  refine z_callS (T := mJ6_bitCount_0f7a4) (As := [_]) kJ6_bitCount_0f7a4 ml_X9_268 ⟨by decide, by decide⟩ dX9_ask_6 rfl rfl (Nat.le_of_ble_eq_true rfl) (Nat.le_refl _) (Nat.le_refl _) (qJ6_bitCount_0f7a4 (by omega) (by omega) ?_)
  refine z_istore_n dX9_ask_9 (by decide) rfl lss_8_2 ?_
  refine z_bipush dX9_ask_10 ⟨by decide, by decide⟩ ?_
  refine z_istore_n dX9_ask_12 (by decide) rfl lss_8_3 ?_
  refine z_iload_n dX9_ask_13 rfl ?_
  refine z_istore dX9_ask_14 (by decide) rfl lss_8_4 ?_
  refine z_iconst dX9_ask_16 ⟨by decide, by decide⟩ ?_
  refine z_istore dX9_ask_17 (by decide) rfl lss_8_5 ?_
  refine lpX9_ask (s := whoC h t) hg ht ht1 hc wr.1 wr.2 (fun x6 x7 => ?_) _ 0 (Nat.zero_add _) _ _
  refine z_iload_n dX9_ask_75 rfl ?_
  refine z_ret (v := some (zi _)) dX9_ask_76 trivial (Nat.add_zero _).symm (Nat.add_zero _).symm rfl ?_
  exact hQ
def hearsC (h : zH) (t p w : Int) : Int × zH := if 0 ≤ p ∧ p < h t 1 then (if 0 ≤ w ∧ w ≤ 1 then (if h 93 2 < 4 then (h 93 2 + 1, zup (zup (zup h 94 (h 93 2) p) 95 (h 93 2) w) 93 2 (h 93 2 + 1)) else (-3, h)) else (-1, h)) else (-1, h)
def typeC (h : zH) (c : Int) : Int × zH := if 0 ≤ c ∧ c ≤ 255 then (if h 2 1 < 150 then (h 2 1 + 1, zup (zup h 3 (h 2 1) c) 2 1 (h 2 1 + 1)) else (-3, h)) else (-1, h)
theorem qX2_add {l : Launch} {g h : zH} {Q : zQt} (hg : zGd g) {p x : Int} (cs : 0 ≤ h 93 2 ∧ h 93 2 ≤ 4) (h1 : h 93 2 < 4 → Q (some (zi 1)) (SHL, g) (zup (zup (zup h 94 (h 93 2) p) 95 (h 93 2) x) 93 2 (h 93 2 + 1))) (h0 : ¬ h 93 2 < 4 → Q (some (zi 0)) (SHL, g) h) : zC l mX2_add [zr 93, zi p, zi x] (SHL, g) h Q := by
  refine z_method kX2_add.1 rfl (Nat.le_of_ble_eq_true rfl) (fun hok hh => ?_)
  refine z_aload_n dX2_add_0 rfl (by omega) ?_
  refine y_geti (k' := 2) fl_X2_18 rfl dX2_add_1 sh_93 (by decide) rfl ?_
  refine z_iconst dX2_add_4 ⟨by decide, by decide⟩ ?_
  refine z_icmp_lt (tgt := 10) dX2_add_5 (by decide) (fun c5 => ?_) (fun c5 => ?_)
  ·
    refine z_aload_n dX2_add_10 rfl (by omega) ?_
    refine y_geta (k' := 0) fl_X2_9 rfl dX2_add_11 sh_93 (by decide) (gf_93_0 hg) ?_
    refine z_aload_n dX2_add_14 rfl (by omega) ?_
    refine y_geti (k' := 2) fl_X2_18 rfl dX2_add_15 sh_93 (by decide) rfl ?_
    refine z_iload_n dX2_add_18 rfl ?_
    refine z_iastore dX2_add_19 sh_94 (by omega) (by omega) ?_
    refine z_aload_n dX2_add_20 rfl (by omega) ?_
    refine y_geta (k' := 1) fl_X2_15 rfl dX2_add_21 sh_93 (by decide) (gf_93_1 hg) ?_
    refine z_aload_n dX2_add_24 rfl (by omega) ?_
    refine y_geti (k' := 2) fl_X2_18 rfl dX2_add_25 sh_93 (by decide) (zup_ne (by omega)) ?_
    refine z_iload_n dX2_add_28 rfl ?_
    refine z_iastore dX2_add_29 sh_95 (by omega) (by omega) ?_
    refine z_aload_n dX2_add_30 rfl (by omega) ?_
    refine z_dup dX2_add_31 rfl ?_
    refine y_geti (k' := 2) fl_X2_18 rfl dX2_add_32 sh_93 (by decide) ((zup_ne (by omega)).trans (zup_ne (by omega))) ?_
    refine z_iconst dX2_add_35 ⟨by decide, by decide⟩ ?_
    refine y_iadd dX2_add_36 (by omega) (by omega) ?_
    refine y_puti (k' := 2) fl_X2_18 rfl dX2_add_37 sh_93 (by decide)  ?_
    refine z_iconst dX2_add_40 ⟨by decide, by decide⟩ ?_
    refine z_ret (v := some (zi _)) dX2_add_41 (Or.inr rfl) (Nat.add_zero _).symm (Nat.add_zero _).symm rfl ?_
    first | exact h1 (by omega) | exact h0 (by omega)
  ·
    refine z_iconst dX2_add_8 ⟨by decide, by decide⟩ ?_
    refine z_ret (v := some (zi _)) dX2_add_9 (Or.inl rfl) (Nat.add_zero _).symm (Nat.add_zero _).symm rfl ?_
    first | exact h1 (by omega) | exact h0 (by omega)
theorem qX9_hears {l : Launch} {g h : zH} {Q : zQt} {t : Int} (hg : zGd g) (ht : t = 4 ∨ t = 14) (ht1 : g 1 1 = t) (hc : CB h t) {p x : Int} (hQ : Q (some (zi (hearsC h t p x).1)) (SHL, g) (hearsC h t p x).2) : zC l mX9_hears [zr 1, zi p, zi x] (SHL, g) h Q := by
  obtain ⟨ts0, ts1, ts2, ts3, ts4, ts5, ts6, ts7, ts8, ts9, tg4, tg5, tg6, tg7, tg8, tg9, tg10, tg11, tg12⟩ := houseF hg ht
  obtain ⟨⟨⟨m0, m1, m2, m3⟩, mp, md, mn⟩, ⟨nd, nc, nl⟩, ck, cs, cpp, cl, ct⟩ := id hc
  refine z_method kX9_hears.1 rfl (Nat.le_of_ble_eq_true rfl) (fun hok hh => ?_)
  refine z_aload_n dX9_hears_0 rfl (by omega) ?_
  refine y_geto (k' := 1) fl_X9_19 rfl dX9_hears_1 sh_1 (by decide) ht1 ?_
  refine z_iload_n dX9_hears_4 rfl ?_
  refine z_callV (T := mX4_hasPath) (As := [_]) kX4_hasPath ml_X9_98 ⟨by decide, by decide⟩ dX9_hears_5 rfl rfl (Nat.le_of_ble_eq_true rfl) ts0 ⟨by decide, rfl⟩ (Nat.le_refl _) (Nat.le_refl _) (qX4_hasPath hg ht (fun b5 => ?_) (fun b5 => ?_))
  ·
    refine z_if_eq (tgt := 20) dX9_hears_8 (by decide) (fun q => False.elim (by omega)) (fun _ => ?_)
    refine z_iload_n dX9_hears_11 rfl ?_
    refine z_if_lt (tgt := 20) dX9_hears_12 (by decide) (fun c12 => ?_) (fun c12 => ?_)
    ·
      refine z_iconst dX9_hears_20 ⟨by decide, by decide⟩ ?_
      refine z_ret (v := some (zi _)) dX9_hears_21 trivial (Nat.add_zero _).symm (Nat.add_zero _).symm rfl ?_
      first
        | (rw [hearsC, if_neg b5] at hQ; exact hQ)
        | (rw [hearsC, if_pos b5, if_neg (by omega)] at hQ; exact hQ)
    ·
      refine z_iload_n dX9_hears_15 rfl ?_
      refine z_iconst dX9_hears_16 ⟨by decide, by decide⟩ ?_
      refine z_icmp_le (tgt := 22) dX9_hears_17 (by decide) (fun c17 => ?_) (fun c17 => ?_)
      ·
        refine z_aload_n dX9_hears_22 rfl (by omega) ?_
        refine y_geto (k' := 6) fl_X9_49 rfl dX9_hears_23 sh_1 (by decide) (gf_1_6 hg) ?_
        refine z_iload_n dX9_hears_26 rfl ?_
        refine z_iload_n dX9_hears_27 rfl ?_
        refine z_callV (T := mX2_add) (As := [_, _]) kX2_add ml_X9_256 ⟨by decide, by decide⟩ dX9_hears_28 rfl rfl (Nat.le_of_ble_eq_true rfl) sh_93 ⟨by decide, rfl⟩ (Nat.le_refl _) (Nat.le_refl _) (qX2_add hg cs (fun b28 => ?_) (fun b28 => ?_))
        ·
          refine z_if_eq (tgt := 44) dX9_hears_31 (by decide) (fun q => False.elim (by omega)) (fun _ => ?_)
          refine z_aload_n dX9_hears_34 rfl (by omega) ?_
          refine y_geto (k' := 6) fl_X9_49 rfl dX9_hears_35 sh_1 (by decide) (gf_1_6 hg) ?_
          refine y_geti (k' := 2) fl_X9_91 rfl dX9_hears_38 sh_93 (by decide) (zup_same _ _ _ _) ?_
          refine z_goto (tgt := 46) dX9_hears_41 (by decide) ?_
          refine z_ret (v := some (zi _)) dX9_hears_46 trivial (Nat.add_zero _).symm (Nat.add_zero _).symm rfl ?_
          first
            | (rw [hearsC, if_pos b5, if_pos (by omega), if_pos (by omega)] at hQ; exact hQ)
            | (rw [hearsC, if_pos b5, if_pos (by omega), if_neg (by omega)] at hQ; exact hQ)
        ·
          refine z_if_eq (tgt := 44) dX9_hears_31 (by decide) (fun _ => ?_) (fun q => False.elim (by omega))
          refine z_bipush dX9_hears_44 ⟨by decide, by decide⟩ ?_
          refine z_ret (v := some (zi _)) dX9_hears_46 trivial (Nat.add_zero _).symm (Nat.add_zero _).symm rfl ?_
          first
            | (rw [hearsC, if_pos b5, if_pos (by omega), if_pos (by omega)] at hQ; exact hQ)
            | (rw [hearsC, if_pos b5, if_pos (by omega), if_neg (by omega)] at hQ; exact hQ)
      ·
        refine z_iconst dX9_hears_20 ⟨by decide, by decide⟩ ?_
        refine z_ret (v := some (zi _)) dX9_hears_21 trivial (Nat.add_zero _).symm (Nat.add_zero _).symm rfl ?_
        first
          | (rw [hearsC, if_neg b5] at hQ; exact hQ)
          | (rw [hearsC, if_pos b5, if_neg (by omega)] at hQ; exact hQ)
  ·
    refine z_if_eq (tgt := 20) dX9_hears_8 (by decide) (fun _ => ?_) (fun q => False.elim (by omega))
    refine z_iconst dX9_hears_20 ⟨by decide, by decide⟩ ?_
    refine z_ret (v := some (zi _)) dX9_hears_21 trivial (Nat.add_zero _).symm (Nat.add_zero _).symm rfl ?_
    first
      | (rw [hearsC, if_neg b5] at hQ; exact hQ)
      | (rw [hearsC, if_pos b5, if_neg (by omega)] at hQ; exact hQ)
theorem qX9_forget {l : Launch} {g h : zH} {Q : zQt} {t : Int} (hg : zGd g) (ht : t = 4 ∨ t = 14) (ht1 : g 1 1 = t) (hc : CB h t) (hQ : Q (some (zi (h 93 2))) (SHL, g) (zup h 93 2 0)) : zC l mX9_forget [zr 1] (SHL, g) h Q := by
  obtain ⟨ts0, ts1, ts2, ts3, ts4, ts5, ts6, ts7, ts8, ts9, tg4, tg5, tg6, tg7, tg8, tg9, tg10, tg11, tg12⟩ := houseF hg ht
  obtain ⟨⟨⟨m0, m1, m2, m3⟩, mp, md, mn⟩, ⟨nd, nc, nl⟩, ck, cs, cpp, cl, ct⟩ := id hc
  refine z_method kX9_forget.1 rfl (Nat.le_of_ble_eq_true rfl) (fun hok hh => ?_)
  refine z_aload_n dX9_forget_0 rfl (by omega) ?_
  refine y_geto (k' := 6) fl_X9_49 rfl dX9_forget_1 sh_1 (by decide) (gf_1_6 hg) ?_
  refine y_geti (k' := 2) fl_X9_91 rfl dX9_forget_4 sh_93 (by decide) rfl ?_
  refine z_istore_n dX9_forget_7 (by decide) rfl lss_2_1 ?_
  refine z_aload_n dX9_forget_8 rfl (by omega) ?_
  refine y_geto (k' := 6) fl_X9_49 rfl dX9_forget_9 sh_1 (by decide) (gf_1_6 hg) ?_
  refine z_iconst dX9_forget_12 ⟨by decide, by decide⟩ ?_
  refine y_puti (k' := 2) fl_X9_91 rfl dX9_forget_13 sh_93 (by decide)  ?_
  refine z_iload_n dX9_forget_16 rfl ?_
  refine z_ret (v := some (zi _)) dX9_forget_17 trivial (Nat.add_zero _).symm (Nat.add_zero _).symm rfl ?_
  exact hQ
theorem qX7_append {l : Launch} {g h : zH} {Q : zQt} (hg : zGd g) {c : Int} (cl : 0 ≤ h 2 1 ∧ h 2 1 ≤ 150) (h1 : h 2 1 < 150 → Q (some (zi 1)) (SHL, g) (zup (zup h 3 (h 2 1) c) 2 1 (h 2 1 + 1))) (h0 : ¬ h 2 1 < 150 → Q (some (zi 0)) (SHL, g) h) : zC l mX7_append [zr 2, zi c] (SHL, g) h Q := by
  refine z_method kX7_append.1 rfl (Nat.le_of_ble_eq_true rfl) (fun hok hh => ?_)
  refine z_aload_n dX7_append_0 rfl (by omega) ?_
  refine y_geti (k' := 1) fl_X7_15 rfl dX7_append_1 sh_2 (by decide) rfl ?_
  refine z_sipush dX7_append_4 ⟨by decide, by decide⟩ ?_
  refine z_icmp_lt (tgt := 12) dX7_append_7 (by decide) (fun c7 => ?_) (fun c7 => ?_)
  ·
    refine z_aload_n dX7_append_12 rfl (by omega) ?_
    refine y_geta (k' := 0) fl_X7_9 rfl dX7_append_13 sh_2 (by decide) (gf_2_0 hg) ?_
    refine z_aload_n dX7_append_16 rfl (by omega) ?_
    refine y_geti (k' := 1) fl_X7_15 rfl dX7_append_17 sh_2 (by decide) rfl ?_
    refine z_iload_n dX7_append_20 rfl ?_
    refine z_iastore dX7_append_21 sh_3 (by omega) (by omega) ?_
    refine z_aload_n dX7_append_22 rfl (by omega) ?_
    refine z_dup dX7_append_23 rfl ?_
    refine y_geti (k' := 1) fl_X7_15 rfl dX7_append_24 sh_2 (by decide) (zup_ne (by omega)) ?_
    refine z_iconst dX7_append_27 ⟨by decide, by decide⟩ ?_
    refine y_iadd dX7_append_28 (by omega) (by omega) ?_
    refine y_puti (k' := 1) fl_X7_15 rfl dX7_append_29 sh_2 (by decide)  ?_
    refine z_iconst dX7_append_32 ⟨by decide, by decide⟩ ?_
    refine z_ret (v := some (zi _)) dX7_append_33 (Or.inr rfl) (Nat.add_zero _).symm (Nat.add_zero _).symm rfl ?_
    first | exact h1 (by omega) | exact h0 (by omega)
  ·
    refine z_iconst dX7_append_10 ⟨by decide, by decide⟩ ?_
    refine z_ret (v := some (zi _)) dX7_append_11 (Or.inl rfl) (Nat.add_zero _).symm (Nat.add_zero _).symm rfl ?_
    first | exact h1 (by omega) | exact h0 (by omega)
theorem qX7_drop {l : Launch} {g h : zH} {Q : zQt} (hg : zGd g) (hQ : Q (some (zi (h 2 1))) (SHL, g) (zup h 2 1 0)) : zC l mX7_drop [zr 2] (SHL, g) h Q := by
  refine z_method kX7_drop.1 rfl (Nat.le_of_ble_eq_true rfl) (fun hok hh => ?_)
  refine z_aload_n dX7_drop_0 rfl (by omega) ?_
  refine y_geti (k' := 1) fl_X7_15 rfl dX7_drop_1 sh_2 (by decide) rfl ?_
  refine z_istore_n dX7_drop_4 (by decide) rfl lss_2_1 ?_
  refine z_aload_n dX7_drop_5 rfl (by omega) ?_
  refine z_iconst dX7_drop_6 ⟨by decide, by decide⟩ ?_
  refine y_puti (k' := 1) fl_X7_15 rfl dX7_drop_7 sh_2 (by decide)  ?_
  refine z_iload_n dX7_drop_10 rfl ?_
  refine z_ret (v := some (zi _)) dX7_drop_11 trivial (Nat.add_zero _).symm (Nat.add_zero _).symm rfl ?_
  exact hQ
theorem qX9_type {l : Launch} {g h : zH} {Q : zQt} {t : Int} (hg : zGd g) (ht : t = 4 ∨ t = 14) (ht1 : g 1 1 = t) (hc : CB h t) {c : Int} (hQ : Q (some (zi (typeC h c).1)) (SHL, g) (typeC h c).2) : zC l mX9_type [zr 1, zi c] (SHL, g) h Q := by
  obtain ⟨ts0, ts1, ts2, ts3, ts4, ts5, ts6, ts7, ts8, ts9, tg4, tg5, tg6, tg7, tg8, tg9, tg10, tg11, tg12⟩ := houseF hg ht
  obtain ⟨⟨⟨m0, m1, m2, m3⟩, mp, md, mn⟩, ⟨nd, nc, nl⟩, ck, cs, cpp, cl, ct⟩ := id hc
  refine z_method kX9_type.1 rfl (Nat.le_of_ble_eq_true rfl) (fun hok hh => ?_)
  refine z_iload_n dX9_type_0 rfl ?_
  refine z_if_lt (tgt := 11) dX9_type_1 (by decide) (fun c1 => ?_) (fun c1 => ?_)
  ·
    refine z_iconst dX9_type_11 ⟨by decide, by decide⟩ ?_
    refine z_ret (v := some (zi _)) dX9_type_12 trivial (Nat.add_zero _).symm (Nat.add_zero _).symm rfl ?_
    first
      | (rw [typeC, if_neg (by omega)] at hQ; exact hQ)
  ·
    refine z_iload_n dX9_type_4 rfl ?_
    refine z_sipush dX9_type_5 ⟨by decide, by decide⟩ ?_
    refine z_icmp_le (tgt := 13) dX9_type_8 (by decide) (fun c8 => ?_) (fun c8 => ?_)
    ·
      refine z_aload_n dX9_type_13 rfl (by omega) ?_
      refine y_geto (k' := 0) fl_X9_10 rfl dX9_type_14 sh_1 (by decide) (gf_1_0 hg) ?_
      refine z_iload_n dX9_type_17 rfl ?_
      refine z_callV (T := mX7_append) (As := [_]) kX7_append ml_X9_68 ⟨by decide, by decide⟩ dX9_type_18 rfl rfl (Nat.le_of_ble_eq_true rfl) sh_2 ⟨by decide, rfl⟩ (Nat.le_refl _) (Nat.le_refl _) (qX7_append hg cl (fun b18 => ?_) (fun b18 => ?_))
      ·
        refine z_if_eq (tgt := 34) dX9_type_21 (by decide) (fun q => False.elim (by omega)) (fun _ => ?_)
        refine z_aload_n dX9_type_24 rfl (by omega) ?_
        refine y_geto (k' := 0) fl_X9_10 rfl dX9_type_25 sh_1 (by decide) (gf_1_0 hg) ?_
        refine y_geti (k' := 1) fl_X9_72 rfl dX9_type_28 sh_2 (by decide) (zup_same _ _ _ _) ?_
        refine z_goto (tgt := 36) dX9_type_31 (by decide) ?_
        refine z_ret (v := some (zi _)) dX9_type_36 trivial (Nat.add_zero _).symm (Nat.add_zero _).symm rfl ?_
        first
          | (rw [typeC, if_pos (by omega), if_pos (by omega)] at hQ; exact hQ)
          | (rw [typeC, if_pos (by omega), if_neg (by omega)] at hQ; exact hQ)
      ·
        refine z_if_eq (tgt := 34) dX9_type_21 (by decide) (fun _ => ?_) (fun q => False.elim (by omega))
        refine z_bipush dX9_type_34 ⟨by decide, by decide⟩ ?_
        refine z_ret (v := some (zi _)) dX9_type_36 trivial (Nat.add_zero _).symm (Nat.add_zero _).symm rfl ?_
        first
          | (rw [typeC, if_pos (by omega), if_pos (by omega)] at hQ; exact hQ)
          | (rw [typeC, if_pos (by omega), if_neg (by omega)] at hQ; exact hQ)
    ·
      refine z_iconst dX9_type_11 ⟨by decide, by decide⟩ ?_
      refine z_ret (v := some (zi _)) dX9_type_12 trivial (Nat.add_zero _).symm (Nat.add_zero _).symm rfl ?_
      first
        | (rw [typeC, if_neg (by omega)] at hQ; exact hQ)
theorem qX9_clear {l : Launch} {g h : zH} {Q : zQt} {t : Int} (hg : zGd g) (ht : t = 4 ∨ t = 14) (ht1 : g 1 1 = t) (hc : CB h t) (hQ : Q (some (zi (h 2 1))) (SHL, g) (zup h 2 1 0)) : zC l mX9_clear [zr 1] (SHL, g) h Q := by
  obtain ⟨ts0, ts1, ts2, ts3, ts4, ts5, ts6, ts7, ts8, ts9, tg4, tg5, tg6, tg7, tg8, tg9, tg10, tg11, tg12⟩ := houseF hg ht
  obtain ⟨⟨⟨m0, m1, m2, m3⟩, mp, md, mn⟩, ⟨nd, nc, nl⟩, ck, cs, cpp, cl, ct⟩ := id hc
  refine z_method kX9_clear.1 rfl (Nat.le_of_ble_eq_true rfl) (fun hok hh => ?_)
  refine z_aload_n dX9_clear_0 rfl (by omega) ?_
  refine y_geto (k' := 0) fl_X9_10 rfl dX9_clear_1 sh_1 (by decide) (gf_1_0 hg) ?_
  refine z_callV (T := mX7_drop) (As := []) kX7_drop ml_X9_76 ⟨by decide, by decide⟩ dX9_clear_4 rfl rfl (Nat.le_of_ble_eq_true rfl) sh_2 ⟨by decide, rfl⟩ (Nat.le_refl _) (Nat.le_refl _) (qX7_drop hg ?_)
  refine z_ret (v := some (zi _)) dX9_clear_7 trivial (Nat.add_zero _).symm (Nat.add_zero _).symm rfl ?_
  exact hQ
theorem qX9_asDirector {l : Launch} {g h : zH} {Q : zQt} {t : Int} (hg : zGd g) (ht : t = 4 ∨ t = 14) (ht1 : g 1 1 = t) {d : Int} (d0 : 0 ≤ d) (d6 : d < 6) (t0 : 0 ≤ h 1 9) (t1 : h 1 9 ≤ 2002000000) (hQ : Q (some (zi (h 26 d))) (SHL, g) (zup h 1 9 (h 1 9 + 1))) : zC l mX9_asDirector [zr 1, zi d] (SHL, g) h Q := by
  obtain ⟨ts0, ts1, ts2, ts3, ts4, ts5, ts6, ts7, ts8, ts9, tg4, tg5, tg6, tg7, tg8, tg9, tg10, tg11, tg12⟩ := houseF hg ht
  refine z_method kX9_asDirector.1 rfl (Nat.le_of_ble_eq_true rfl) (fun hok hh => ?_)
  refine z_aload_n dX9_asDirector_0 rfl (by omega) ?_
  refine z_dup dX9_asDirector_1 rfl ?_
  refine y_getl (k' := 9) fl_X9_305 rfl dX9_asDirector_2 sh_1 (by decide) rfl ?_
  refine z_lconst1 dX9_asDirector_5 ?_
  refine y_ladd dX9_asDirector_6 (by omega) (by omega) ?_
  refine y_putl (k' := 9) fl_X9_305 rfl dX9_asDirector_7 sh_1 (by decide) ⟨by omega, by omega⟩ ?_
  refine z_aload_n dX9_asDirector_10 rfl (by omega) ?_
  refine y_geto (k' := 3) fl_X9_29 rfl dX9_asDirector_11 sh_1 (by decide) (gf_1_3 hg) ?_
  refine y_geta (k' := 1) fl_X9_121 rfl dX9_asDirector_14 sh_24 (by decide) (gf_24_1 hg) ?_
  refine z_iload_n dX9_asDirector_17 rfl ?_
  refine z_iaload dX9_asDirector_18 sh_26 (by omega) (by omega) (zup_ne (by omega)) ?_
  refine z_ret (v := some (zi _)) dX9_asDirector_19 trivial (Nat.add_zero _).symm (Nat.add_zero _).symm rfl ?_
  exact hQ
theorem qX9_asFounder {l : Launch} {g h : zH} {Q : zQt} {t : Int} (hg : zGd g) (ht : t = 4 ∨ t = 14) (ht1 : g 1 1 = t) {d : Int} (d0 : 0 ≤ d) (d6 : d < 6) (t0 : 0 ≤ h 1 9) (t1 : h 1 9 ≤ 2001000000)(s0 : 0 ≤ h 26 d) (s1 : h 26 d ≤ 99) (g0 : 0 ≤ h (t + 6) d) (g1 : h (t + 6) d ≤ 5) (hQ : Q (some (zi (h 26 d + h (t + 6) d))) (SHL, g) (zup h 1 9 (h 1 9 + 10 + 1))) : zC l mX9_asFounder [zr 1, zi d] (SHL, g) h Q := by
  obtain ⟨ts0, ts1, ts2, ts3, ts4, ts5, ts6, ts7, ts8, ts9, tg4, tg5, tg6, tg7, tg8, tg9, tg10, tg11, tg12⟩ := houseF hg ht
  refine z_method kX9_asFounder.1 rfl (Nat.le_of_ble_eq_true rfl) (fun hok hh => ?_)
  refine z_aload_n dX9_asFounder_0 rfl (by omega) ?_
  refine z_dup dX9_asFounder_1 rfl ?_
  refine y_getl (k' := 9) fl_X9_305 rfl dX9_asFounder_2 sh_1 (by decide) rfl ?_
  refine z_ldc2 dX9_asFounder_5 kc_X9_309 ⟨by decide, by decide⟩ ?_
  refine y_ladd dX9_asFounder_8 (by omega) (by omega) ?_
  refine y_putl (k' := 9) fl_X9_305 rfl dX9_asFounder_9 sh_1 (by decide) ⟨by omega, by omega⟩ ?_
  refine z_aload_n dX9_asFounder_12 rfl (by omega) ?_
  refine z_iload_n dX9_asFounder_13 rfl ?_
  refine z_callV (T := mX9_asDirector) (As := [_]) kX9_asDirector ml_X9_277 ⟨by decide, by decide⟩ dX9_asFounder_14 rfl rfl (Nat.le_of_ble_eq_true rfl) sh_1 ⟨by decide, rfl⟩ (Nat.le_refl _) (Nat.le_refl _) (qX9_asDirector hg ht ht1 (by omega) (by omega) (by show 0 ≤ zup _ _ _ _ _ _; rw [zup_same]; omega) (by show zup _ _ _ _ _ _ ≤ _; rw [zup_same]; omega) ?_)
  rw [zup_same, zup_zup, show zup h 1 9 (h 1 9 + 10) 26 d = h 26 d from zup_ne (by omega)]
  refine z_aload_n dX9_asFounder_17 rfl (by omega) ?_
  refine y_geto (k' := 1) fl_X9_19 rfl dX9_asFounder_18 sh_1 (by decide) ht1 ?_
  refine y_geta (k' := 9) fl_X9_124 rfl dX9_asFounder_21 ts0 (by decide) tg9 ?_
  refine z_iload_n dX9_asFounder_24 rfl ?_
  refine z_iaload dX9_asFounder_25 ts6 (by omega) (by omega) (zup_ne (by omega)) ?_
  refine y_iadd dX9_asFounder_26 (by omega) (by omega) ?_
  refine z_ret (v := some (zi _)) dX9_asFounder_27 trivial (Nat.add_zero _).symm (Nat.add_zero _).symm rfl ?_
  exact hQ
theorem qX9_asChair {l : Launch} {g h : zH} {Q : zQt} {t : Int} (hg : zGd g) (ht : t = 4 ∨ t = 14) (ht1 : g 1 1 = t) {d : Int} (d0 : 0 ≤ d) (d6 : d < 6) (t0 : 0 ≤ h 1 9) (t1 : h 1 9 ≤ 2001000000)(s0 : 0 ≤ h 26 d) (s1 : h 26 d ≤ 99) (g0 : 0 ≤ h 28 d) (g1 : h 28 d ≤ 999) (hQ : Q (some (zi (h 26 d - h 28 d))) (SHL, g) (zup h 1 9 (h 1 9 + 100 + 1))) : zC l mX9_asChair [zr 1, zi d] (SHL, g) h Q := by
  obtain ⟨ts0, ts1, ts2, ts3, ts4, ts5, ts6, ts7, ts8, ts9, tg4, tg5, tg6, tg7, tg8, tg9, tg10, tg11, tg12⟩ := houseF hg ht
  refine z_method kX9_asChair.1 rfl (Nat.le_of_ble_eq_true rfl) (fun hok hh => ?_)
  refine z_aload_n dX9_asChair_0 rfl (by omega) ?_
  refine z_dup dX9_asChair_1 rfl ?_
  refine y_getl (k' := 9) fl_X9_305 rfl dX9_asChair_2 sh_1 (by decide) rfl ?_
  refine z_ldc2 dX9_asChair_5 kc_X9_311 ⟨by decide, by decide⟩ ?_
  refine y_ladd dX9_asChair_8 (by omega) (by omega) ?_
  refine y_putl (k' := 9) fl_X9_305 rfl dX9_asChair_9 sh_1 (by decide) ⟨by omega, by omega⟩ ?_
  refine z_aload_n dX9_asChair_12 rfl (by omega) ?_
  refine z_iload_n dX9_asChair_13 rfl ?_
  refine z_callV (T := mX9_asDirector) (As := [_]) kX9_asDirector ml_X9_277 ⟨by decide, by decide⟩ dX9_asChair_14 rfl rfl (Nat.le_of_ble_eq_true rfl) sh_1 ⟨by decide, rfl⟩ (Nat.le_refl _) (Nat.le_refl _) (qX9_asDirector hg ht ht1 (by omega) (by omega) (by show 0 ≤ zup _ _ _ _ _ _; rw [zup_same]; omega) (by show zup _ _ _ _ _ _ ≤ _; rw [zup_same]; omega) ?_)
  rw [zup_same, zup_zup, show zup h 1 9 (h 1 9 + 100) 26 d = h 26 d from zup_ne (by omega)]
  refine z_aload_n dX9_asChair_17 rfl (by omega) ?_
  refine y_geto (k' := 3) fl_X9_29 rfl dX9_asChair_18 sh_1 (by decide) (gf_1_3 hg) ?_
  refine y_geta (k' := 3) fl_X9_133 rfl dX9_asChair_21 sh_24 (by decide) (gf_24_3 hg) ?_
  refine z_iload_n dX9_asChair_24 rfl ?_
  refine z_iaload dX9_asChair_25 sh_28 (by omega) (by omega) (zup_ne (by omega)) ?_
  refine y_isub dX9_asChair_26 (by omega) (by omega) ?_
  refine z_ret (v := some (zi _)) dX9_asChair_27 trivial (Nat.add_zero _).symm (Nat.add_zero _).symm rfl ?_
  exact hQ
theorem qX9_asClerk {l : Launch} {g h : zH} {Q : zQt} {t : Int} (hg : zGd g) (ht : t = 4 ∨ t = 14) (ht1 : g 1 1 = t) {d : Int} (d0 : 0 ≤ d) (d6 : d < 6) (t0 : 0 ≤ h 1 9) (t1 : h 1 9 ≤ 2001000000)(s0 : 0 ≤ h 26 d) (s1 : h 26 d ≤ 99) (g0 : 0 ≤ h 25 d) (g1 : h 25 d ≤ 8) (hQ : Q (some (zi (h 26 d + h 25 d))) (SHL, g) (zup h 1 9 (h 1 9 + 100000 + 1))) : zC l mX9_asClerk [zr 1, zi d] (SHL, g) h Q := by
  obtain ⟨ts0, ts1, ts2, ts3, ts4, ts5, ts6, ts7, ts8, ts9, tg4, tg5, tg6, tg7, tg8, tg9, tg10, tg11, tg12⟩ := houseF hg ht
  refine z_method kX9_asClerk.1 rfl (Nat.le_of_ble_eq_true rfl) (fun hok hh => ?_)
  refine z_aload_n dX9_asClerk_0 rfl (by omega) ?_
  refine z_dup dX9_asClerk_1 rfl ?_
  refine y_getl (k' := 9) fl_X9_305 rfl dX9_asClerk_2 sh_1 (by decide) rfl ?_
  refine z_ldc2 dX9_asClerk_5 kc_X9_317 ⟨by decide, by decide⟩ ?_
  refine y_ladd dX9_asClerk_8 (by omega) (by omega) ?_
  refine y_putl (k' := 9) fl_X9_305 rfl dX9_asClerk_9 sh_1 (by decide) ⟨by omega, by omega⟩ ?_
  refine z_aload_n dX9_asClerk_12 rfl (by omega) ?_
  refine z_iload_n dX9_asClerk_13 rfl ?_
  refine z_callV (T := mX9_asDirector) (As := [_]) kX9_asDirector ml_X9_277 ⟨by decide, by decide⟩ dX9_asClerk_14 rfl rfl (Nat.le_of_ble_eq_true rfl) sh_1 ⟨by decide, rfl⟩ (Nat.le_refl _) (Nat.le_refl _) (qX9_asDirector hg ht ht1 (by omega) (by omega) (by show 0 ≤ zup _ _ _ _ _ _; rw [zup_same]; omega) (by show zup _ _ _ _ _ _ ≤ _; rw [zup_same]; omega) ?_)
  rw [zup_same, zup_zup, show zup h 1 9 (h 1 9 + 100000) 26 d = h 26 d from zup_ne (by omega)]
  refine z_aload_n dX9_asClerk_17 rfl (by omega) ?_
  refine y_geto (k' := 3) fl_X9_29 rfl dX9_asClerk_18 sh_1 (by decide) (gf_1_3 hg) ?_
  refine y_geta (k' := 0) fl_X9_127 rfl dX9_asClerk_21 sh_24 (by decide) (gf_24_0 hg) ?_
  refine z_iload_n dX9_asClerk_24 rfl ?_
  refine z_iaload dX9_asClerk_25 sh_25 (by omega) (by omega) (zup_ne (by omega)) ?_
  refine y_iadd dX9_asClerk_26 (by omega) (by omega) ?_
  refine z_ret (v := some (zi _)) dX9_asClerk_27 trivial (Nat.add_zero _).symm (Nat.add_zero _).symm rfl ?_
  exact hQ
theorem qX9_asElder {l : Launch} {g h : zH} {Q : zQt} {t : Int} (hg : zGd g) (ht : t = 4 ∨ t = 14) (ht1 : g 1 1 = t) {d : Int} (d0 : 0 ≤ d) (d6 : d < 6) (t0 : 0 ≤ h 1 9) (t1 : h 1 9 ≤ 2000500000)(s0 : 0 ≤ h 26 d) (s1 : h 26 d ≤ 99) (g0 : 0 ≤ h (t + 6) d) (g1 : h (t + 6) d ≤ 5) (hQ : Q (some (zi ((h 26 d + h (t + 6) d) * 2))) (SHL, g) (zup h 1 9 (h 1 9 + 1000 + 10 + 1))) : zC l mX9_asElder [zr 1, zi d] (SHL, g) h Q := by
  obtain ⟨ts0, ts1, ts2, ts3, ts4, ts5, ts6, ts7, ts8, ts9, tg4, tg5, tg6, tg7, tg8, tg9, tg10, tg11, tg12⟩ := houseF hg ht
  refine z_method kX9_asElder.1 rfl (Nat.le_of_ble_eq_true rfl) (fun hok hh => ?_)
  refine z_aload_n dX9_asElder_0 rfl (by omega) ?_
  refine z_dup dX9_asElder_1 rfl ?_
  refine y_getl (k' := 9) fl_X9_305 rfl dX9_asElder_2 sh_1 (by decide) rfl ?_
  refine z_ldc2 dX9_asElder_5 kc_X9_313 ⟨by decide, by decide⟩ ?_
  refine y_ladd dX9_asElder_8 (by omega) (by omega) ?_
  refine y_putl (k' := 9) fl_X9_305 rfl dX9_asElder_9 sh_1 (by decide) ⟨by omega, by omega⟩ ?_
  refine z_aload_n dX9_asElder_12 rfl (by omega) ?_
  refine z_iload_n dX9_asElder_13 rfl ?_
  refine z_callV (T := mX9_asFounder) (As := [_]) kX9_asFounder ml_X9_280 ⟨by decide, by decide⟩ dX9_asElder_14 rfl rfl (Nat.le_of_ble_eq_true rfl) sh_1 ⟨by decide, rfl⟩ (Nat.le_refl _) (Nat.le_refl _) (qX9_asFounder hg ht ht1 (by omega) (by omega) (by show 0 ≤ zup _ _ _ _ _ _; rw [zup_same]; omega) (by show zup _ _ _ _ _ _ ≤ _; rw [zup_same]; omega) (show 0 ≤ zup h 1 9 _ 26 d by rw [zup_ne (by omega)]; exact s0) (show zup h 1 9 _ 26 d ≤ 99 by rw [zup_ne (by omega)]; exact s1) (show 0 ≤ zup h 1 9 _ (t + 6) d by rw [zup_ne (by omega)]; exact g0) (show zup h 1 9 _ (t + 6) d ≤ 5 by rw [zup_ne (by omega)]; exact g1) ?_)
  rw [zup_same, zup_zup, show zup h 1 9 (h 1 9 + 1000) 26 d = h 26 d from zup_ne (by omega), show zup h 1 9 (h 1 9 + 1000) (t + 6) d = h (t + 6) d from zup_ne (by omega)]
  refine z_iconst dX9_asElder_17 ⟨by decide, by decide⟩ ?_
  refine y_imul dX9_asElder_18 (by omega) (by omega) ?_
  refine z_ret (v := some (zi _)) dX9_asElder_19 trivial (Nat.add_zero _).symm (Nat.add_zero _).symm rfl ?_
  exact hQ
theorem qX9_asBursar {l : Launch} {g h : zH} {Q : zQt} {t : Int} (hg : zGd g) (ht : t = 4 ∨ t = 14) (ht1 : g 1 1 = t) {d : Int} (d0 : 0 ≤ d) (d6 : d < 6) (t0 : 0 ≤ h 1 9) (t1 : h 1 9 ≤ 2000500000)(s0 : 0 ≤ h 26 d) (s1 : h 26 d ≤ 99) (g0 : 0 ≤ h 28 d) (g1 : h 28 d ≤ 999) (hQ : Q (some (zi (h 26 d - h 28 d + d))) (SHL, g) (zup h 1 9 (h 1 9 + 10000 + 100 + 1))) : zC l mX9_asBursar [zr 1, zi d] (SHL, g) h Q := by
  obtain ⟨ts0, ts1, ts2, ts3, ts4, ts5, ts6, ts7, ts8, ts9, tg4, tg5, tg6, tg7, tg8, tg9, tg10, tg11, tg12⟩ := houseF hg ht
  refine z_method kX9_asBursar.1 rfl (Nat.le_of_ble_eq_true rfl) (fun hok hh => ?_)
  refine z_aload_n dX9_asBursar_0 rfl (by omega) ?_
  refine z_dup dX9_asBursar_1 rfl ?_
  refine y_getl (k' := 9) fl_X9_305 rfl dX9_asBursar_2 sh_1 (by decide) rfl ?_
  refine z_ldc2 dX9_asBursar_5 kc_X9_315 ⟨by decide, by decide⟩ ?_
  refine y_ladd dX9_asBursar_8 (by omega) (by omega) ?_
  refine y_putl (k' := 9) fl_X9_305 rfl dX9_asBursar_9 sh_1 (by decide) ⟨by omega, by omega⟩ ?_
  refine z_aload_n dX9_asBursar_12 rfl (by omega) ?_
  refine z_iload_n dX9_asBursar_13 rfl ?_
  refine z_callV (T := mX9_asChair) (As := [_]) kX9_asChair ml_X9_283 ⟨by decide, by decide⟩ dX9_asBursar_14 rfl rfl (Nat.le_of_ble_eq_true rfl) sh_1 ⟨by decide, rfl⟩ (Nat.le_refl _) (Nat.le_refl _) (qX9_asChair hg ht ht1 (by omega) (by omega) (by show 0 ≤ zup _ _ _ _ _ _; rw [zup_same]; omega) (by show zup _ _ _ _ _ _ ≤ _; rw [zup_same]; omega) (show 0 ≤ zup h 1 9 _ 26 d by rw [zup_ne (by omega)]; exact s0) (show zup h 1 9 _ 26 d ≤ 99 by rw [zup_ne (by omega)]; exact s1) (show 0 ≤ zup h 1 9 _ 28 d by rw [zup_ne (by omega)]; exact g0) (show zup h 1 9 _ 28 d ≤ 999 by rw [zup_ne (by omega)]; exact g1) ?_)
  rw [zup_same, zup_zup, show zup h 1 9 (h 1 9 + 10000) 26 d = h 26 d from zup_ne (by omega), show zup h 1 9 (h 1 9 + 10000) 28 d = h 28 d from zup_ne (by omega)]
  refine z_iload_n dX9_asBursar_17 rfl ?_
  refine y_iadd dX9_asBursar_18 (by omega) (by omega) ?_
  refine z_ret (v := some (zi _)) dX9_asBursar_19 trivial (Nat.add_zero _).symm (Nat.add_zero _).symm rfl ?_
  exact hQ
def markC (h : zH) (t k d : Int) : Int × zH := if 0 ≤ d ∧ d < h t 2 then (if k = 0 then (h 26 d, zup h 1 9 (h 1 9 + 1)) else if k = 1 then (h 26 d + h (t + 6) d, zup h 1 9 (h 1 9 + 10 + 1)) else if k = 2 then (h 26 d - h 28 d, zup h 1 9 (h 1 9 + 100 + 1)) else if k = 3 then ((h 26 d + h (t + 6) d) * 2, zup h 1 9 (h 1 9 + 1000 + 10 + 1)) else if k = 4 then (h 26 d - h 28 d + d, zup h 1 9 (h 1 9 + 10000 + 100 + 1)) else if k = 5 then (h 26 d + h 25 d, zup h 1 9 (h 1 9 + 100000 + 1)) else (-1000000, h)) else (-1000000, h)
theorem qX9_mark {l : Launch} {g h : zH} {Q : zQt} {t : Int} (hg : zGd g) (ht : t = 4 ∨ t = 14) (ht1 : g 1 1 = t) (hc : CB h t) {k d : Int} (hQ : Q (some (zi (markC h t k d).1)) (SHL, g) (markC h t k d).2) : zC l mX9_mark [zr 1, zi k, zi d] (SHL, g) h Q := by
  obtain ⟨ts0, ts1, ts2, ts3, ts4, ts5, ts6, ts7, ts8, ts9, tg4, tg5, tg6, tg7, tg8, tg9, tg10, tg11, tg12⟩ := houseF hg ht
  obtain ⟨⟨⟨m0, m1, m2, m3⟩, mp, md, mn⟩, ⟨nd, nc, nl⟩, ck, cs, cpp, cl, ct⟩ := id hc
  refine z_method kX9_mark.1 rfl (Nat.le_of_ble_eq_true rfl) (fun hok hh => ?_)
  refine z_aload_n dX9_mark_0 rfl (by omega) ?_
  refine y_geto (k' := 1) fl_X9_19 rfl dX9_mark_1 sh_1 (by decide) ht1 ?_
  refine z_iload_n dX9_mark_4 rfl ?_
  refine z_callV (T := mX4_hasDirector) (As := [_]) kX4_hasDirector ml_X9_115 ⟨by decide, by decide⟩ dX9_mark_5 rfl rfl (Nat.le_of_ble_eq_true rfl) ts0 ⟨by decide, rfl⟩ (Nat.le_refl _) (Nat.le_refl _) (qX4_hasDirector hg ht (fun b5 => ?_) (fun b5 => ?_))
  ·
    refine z_if_ne (tgt := 15) dX9_mark_8 (by decide) (fun _ => ?_) (fun q => False.elim (by omega))
    have f1 : (0 ≤ h 25 d ∧ h 25 d < h t 0) ∧ (0 ≤ h 26 d ∧ h 26 d ≤ 99) ∧ (0 ≤ h 27 d ∧ h 27 d ≤ 9999) ∧ (0 ≤ h 28 d ∧ h 28 d ≤ 999) := nd d b5.1 b5.2
    have f2 := md d b5.1 b5.2
    refine z_iload_n dX9_mark_15 rfl ?_
    refine y_ts (td := 92) [56, 62, 68, 74, 80, 86] dX9_mark_16 (by decide) (by decide) (by decide) (fun c16 => ?_) (fun j16 hj16 c16 => ?_)
    ·
      refine z_ldcw dX9_mark_92 kc_X9_276 ⟨by decide, by decide⟩ ?_
      refine z_ret (v := some (zi _)) dX9_mark_95 trivial (Nat.add_zero _).symm (Nat.add_zero _).symm rfl ?_
      first
        | (rw [markC, if_neg b5] at hQ; exact hQ)
        | (rw [markC, if_pos b5, if_pos (by omega)] at hQ; exact hQ)
        | (rw [markC, if_pos b5, if_neg (by omega), if_pos (by omega)] at hQ; exact hQ)
        | (rw [markC, if_pos b5, if_neg (by omega), if_neg (by omega), if_pos (by omega)] at hQ; exact hQ)
        | (rw [markC, if_pos b5, if_neg (by omega), if_neg (by omega), if_neg (by omega), if_pos (by omega)] at hQ; exact hQ)
        | (rw [markC, if_pos b5, if_neg (by omega), if_neg (by omega), if_neg (by omega), if_neg (by omega), if_pos (by omega)] at hQ; exact hQ)
        | (rw [markC, if_pos b5, if_neg (by omega), if_neg (by omega), if_neg (by omega), if_neg (by omega), if_neg (by omega), if_pos (by omega)] at hQ; exact hQ)
        | (rw [markC, if_pos b5, if_neg (by omega), if_neg (by omega), if_neg (by omega), if_neg (by omega), if_neg (by omega), if_neg (by omega)] at hQ; exact hQ)
    ·
      rcases (show j16 = 0 ∨ j16 = 1 ∨ j16 = 2 ∨ j16 = 3 ∨ j16 = 4 ∨ j16 = 5 by have h9 : j16 < 6 := hj16; omega) with rfl | rfl | rfl | rfl | rfl | rfl
      ·
        refine z_aload_n dX9_mark_56 rfl (by omega) ?_
        refine z_iload_n dX9_mark_57 rfl ?_
        refine z_callV (T := mX9_asDirector) (As := [_]) kX9_asDirector ml_X9_277 ⟨by decide, by decide⟩ dX9_mark_58 rfl rfl (Nat.le_of_ble_eq_true rfl) sh_1 ⟨by decide, rfl⟩ (Nat.le_refl _) (Nat.le_refl _) (qX9_asDirector hg ht ht1 (by omega) (by omega) (by omega) (by omega) ?_)
        refine z_ret (v := some (zi _)) dX9_mark_61 trivial (Nat.add_zero _).symm (Nat.add_zero _).symm rfl ?_
        first
          | (rw [markC, if_neg b5] at hQ; exact hQ)
          | (rw [markC, if_pos b5, if_pos (by omega)] at hQ; exact hQ)
          | (rw [markC, if_pos b5, if_neg (by omega), if_pos (by omega)] at hQ; exact hQ)
          | (rw [markC, if_pos b5, if_neg (by omega), if_neg (by omega), if_pos (by omega)] at hQ; exact hQ)
          | (rw [markC, if_pos b5, if_neg (by omega), if_neg (by omega), if_neg (by omega), if_pos (by omega)] at hQ; exact hQ)
          | (rw [markC, if_pos b5, if_neg (by omega), if_neg (by omega), if_neg (by omega), if_neg (by omega), if_pos (by omega)] at hQ; exact hQ)
          | (rw [markC, if_pos b5, if_neg (by omega), if_neg (by omega), if_neg (by omega), if_neg (by omega), if_neg (by omega), if_pos (by omega)] at hQ; exact hQ)
          | (rw [markC, if_pos b5, if_neg (by omega), if_neg (by omega), if_neg (by omega), if_neg (by omega), if_neg (by omega), if_neg (by omega)] at hQ; exact hQ)
      ·
        refine z_aload_n dX9_mark_62 rfl (by omega) ?_
        refine z_iload_n dX9_mark_63 rfl ?_
        refine z_callV (T := mX9_asFounder) (As := [_]) kX9_asFounder ml_X9_280 ⟨by decide, by decide⟩ dX9_mark_64 rfl rfl (Nat.le_of_ble_eq_true rfl) sh_1 ⟨by decide, rfl⟩ (Nat.le_refl _) (Nat.le_refl _) (qX9_asFounder hg ht ht1 (by omega) (by omega) (by omega) (by omega) (by omega) (by omega) (by omega) (by omega) ?_)
        refine z_ret (v := some (zi _)) dX9_mark_67 trivial (Nat.add_zero _).symm (Nat.add_zero _).symm rfl ?_
        first
          | (rw [markC, if_neg b5] at hQ; exact hQ)
          | (rw [markC, if_pos b5, if_pos (by omega)] at hQ; exact hQ)
          | (rw [markC, if_pos b5, if_neg (by omega), if_pos (by omega)] at hQ; exact hQ)
          | (rw [markC, if_pos b5, if_neg (by omega), if_neg (by omega), if_pos (by omega)] at hQ; exact hQ)
          | (rw [markC, if_pos b5, if_neg (by omega), if_neg (by omega), if_neg (by omega), if_pos (by omega)] at hQ; exact hQ)
          | (rw [markC, if_pos b5, if_neg (by omega), if_neg (by omega), if_neg (by omega), if_neg (by omega), if_pos (by omega)] at hQ; exact hQ)
          | (rw [markC, if_pos b5, if_neg (by omega), if_neg (by omega), if_neg (by omega), if_neg (by omega), if_neg (by omega), if_pos (by omega)] at hQ; exact hQ)
          | (rw [markC, if_pos b5, if_neg (by omega), if_neg (by omega), if_neg (by omega), if_neg (by omega), if_neg (by omega), if_neg (by omega)] at hQ; exact hQ)
      ·
        refine z_aload_n dX9_mark_68 rfl (by omega) ?_
        refine z_iload_n dX9_mark_69 rfl ?_
        refine z_callV (T := mX9_asChair) (As := [_]) kX9_asChair ml_X9_283 ⟨by decide, by decide⟩ dX9_mark_70 rfl rfl (Nat.le_of_ble_eq_true rfl) sh_1 ⟨by decide, rfl⟩ (Nat.le_refl _) (Nat.le_refl _) (qX9_asChair hg ht ht1 (by omega) (by omega) (by omega) (by omega) (by omega) (by omega) (by omega) (by omega) ?_)
        refine z_ret (v := some (zi _)) dX9_mark_73 trivial (Nat.add_zero _).symm (Nat.add_zero _).symm rfl ?_
        first
          | (rw [markC, if_neg b5] at hQ; exact hQ)
          | (rw [markC, if_pos b5, if_pos (by omega)] at hQ; exact hQ)
          | (rw [markC, if_pos b5, if_neg (by omega), if_pos (by omega)] at hQ; exact hQ)
          | (rw [markC, if_pos b5, if_neg (by omega), if_neg (by omega), if_pos (by omega)] at hQ; exact hQ)
          | (rw [markC, if_pos b5, if_neg (by omega), if_neg (by omega), if_neg (by omega), if_pos (by omega)] at hQ; exact hQ)
          | (rw [markC, if_pos b5, if_neg (by omega), if_neg (by omega), if_neg (by omega), if_neg (by omega), if_pos (by omega)] at hQ; exact hQ)
          | (rw [markC, if_pos b5, if_neg (by omega), if_neg (by omega), if_neg (by omega), if_neg (by omega), if_neg (by omega), if_pos (by omega)] at hQ; exact hQ)
          | (rw [markC, if_pos b5, if_neg (by omega), if_neg (by omega), if_neg (by omega), if_neg (by omega), if_neg (by omega), if_neg (by omega)] at hQ; exact hQ)
      ·
        refine z_aload_n dX9_mark_74 rfl (by omega) ?_
        refine z_iload_n dX9_mark_75 rfl ?_
        refine z_callV (T := mX9_asElder) (As := [_]) kX9_asElder ml_X9_286 ⟨by decide, by decide⟩ dX9_mark_76 rfl rfl (Nat.le_of_ble_eq_true rfl) sh_1 ⟨by decide, rfl⟩ (Nat.le_refl _) (Nat.le_refl _) (qX9_asElder hg ht ht1 (by omega) (by omega) (by omega) (by omega) (by omega) (by omega) (by omega) (by omega) ?_)
        refine z_ret (v := some (zi _)) dX9_mark_79 trivial (Nat.add_zero _).symm (Nat.add_zero _).symm rfl ?_
        first
          | (rw [markC, if_neg b5] at hQ; exact hQ)
          | (rw [markC, if_pos b5, if_pos (by omega)] at hQ; exact hQ)
          | (rw [markC, if_pos b5, if_neg (by omega), if_pos (by omega)] at hQ; exact hQ)
          | (rw [markC, if_pos b5, if_neg (by omega), if_neg (by omega), if_pos (by omega)] at hQ; exact hQ)
          | (rw [markC, if_pos b5, if_neg (by omega), if_neg (by omega), if_neg (by omega), if_pos (by omega)] at hQ; exact hQ)
          | (rw [markC, if_pos b5, if_neg (by omega), if_neg (by omega), if_neg (by omega), if_neg (by omega), if_pos (by omega)] at hQ; exact hQ)
          | (rw [markC, if_pos b5, if_neg (by omega), if_neg (by omega), if_neg (by omega), if_neg (by omega), if_neg (by omega), if_pos (by omega)] at hQ; exact hQ)
          | (rw [markC, if_pos b5, if_neg (by omega), if_neg (by omega), if_neg (by omega), if_neg (by omega), if_neg (by omega), if_neg (by omega)] at hQ; exact hQ)
      ·
        refine z_aload_n dX9_mark_80 rfl (by omega) ?_
        refine z_iload_n dX9_mark_81 rfl ?_
        refine z_callV (T := mX9_asBursar) (As := [_]) kX9_asBursar ml_X9_289 ⟨by decide, by decide⟩ dX9_mark_82 rfl rfl (Nat.le_of_ble_eq_true rfl) sh_1 ⟨by decide, rfl⟩ (Nat.le_refl _) (Nat.le_refl _) (qX9_asBursar hg ht ht1 (by omega) (by omega) (by omega) (by omega) (by omega) (by omega) (by omega) (by omega) ?_)
        refine z_ret (v := some (zi _)) dX9_mark_85 trivial (Nat.add_zero _).symm (Nat.add_zero _).symm rfl ?_
        first
          | (rw [markC, if_neg b5] at hQ; exact hQ)
          | (rw [markC, if_pos b5, if_pos (by omega)] at hQ; exact hQ)
          | (rw [markC, if_pos b5, if_neg (by omega), if_pos (by omega)] at hQ; exact hQ)
          | (rw [markC, if_pos b5, if_neg (by omega), if_neg (by omega), if_pos (by omega)] at hQ; exact hQ)
          | (rw [markC, if_pos b5, if_neg (by omega), if_neg (by omega), if_neg (by omega), if_pos (by omega)] at hQ; exact hQ)
          | (rw [markC, if_pos b5, if_neg (by omega), if_neg (by omega), if_neg (by omega), if_neg (by omega), if_pos (by omega)] at hQ; exact hQ)
          | (rw [markC, if_pos b5, if_neg (by omega), if_neg (by omega), if_neg (by omega), if_neg (by omega), if_neg (by omega), if_pos (by omega)] at hQ; exact hQ)
          | (rw [markC, if_pos b5, if_neg (by omega), if_neg (by omega), if_neg (by omega), if_neg (by omega), if_neg (by omega), if_neg (by omega)] at hQ; exact hQ)
      ·
        refine z_aload_n dX9_mark_86 rfl (by omega) ?_
        refine z_iload_n dX9_mark_87 rfl ?_
        refine z_callV (T := mX9_asClerk) (As := [_]) kX9_asClerk ml_X9_292 ⟨by decide, by decide⟩ dX9_mark_88 rfl rfl (Nat.le_of_ble_eq_true rfl) sh_1 ⟨by decide, rfl⟩ (Nat.le_refl _) (Nat.le_refl _) (qX9_asClerk hg ht ht1 (by omega) (by omega) (by omega) (by omega) (by omega) (by omega) (by omega) (by omega) ?_)
        refine z_ret (v := some (zi _)) dX9_mark_91 trivial (Nat.add_zero _).symm (Nat.add_zero _).symm rfl ?_
        first
          | (rw [markC, if_neg b5] at hQ; exact hQ)
          | (rw [markC, if_pos b5, if_pos (by omega)] at hQ; exact hQ)
          | (rw [markC, if_pos b5, if_neg (by omega), if_pos (by omega)] at hQ; exact hQ)
          | (rw [markC, if_pos b5, if_neg (by omega), if_neg (by omega), if_pos (by omega)] at hQ; exact hQ)
          | (rw [markC, if_pos b5, if_neg (by omega), if_neg (by omega), if_neg (by omega), if_pos (by omega)] at hQ; exact hQ)
          | (rw [markC, if_pos b5, if_neg (by omega), if_neg (by omega), if_neg (by omega), if_neg (by omega), if_pos (by omega)] at hQ; exact hQ)
          | (rw [markC, if_pos b5, if_neg (by omega), if_neg (by omega), if_neg (by omega), if_neg (by omega), if_neg (by omega), if_pos (by omega)] at hQ; exact hQ)
          | (rw [markC, if_pos b5, if_neg (by omega), if_neg (by omega), if_neg (by omega), if_neg (by omega), if_neg (by omega), if_neg (by omega)] at hQ; exact hQ)
  ·
    refine z_if_ne (tgt := 15) dX9_mark_8 (by decide) (fun q => False.elim (by omega)) (fun _ => ?_)
    refine z_ldcw dX9_mark_11 kc_X9_276 ⟨by decide, by decide⟩ ?_
    refine z_ret (v := some (zi _)) dX9_mark_14 trivial (Nat.add_zero _).symm (Nat.add_zero _).symm rfl ?_
    first
      | (rw [markC, if_neg b5] at hQ; exact hQ)
      | (rw [markC, if_pos b5, if_pos (by omega)] at hQ; exact hQ)
      | (rw [markC, if_pos b5, if_neg (by omega), if_pos (by omega)] at hQ; exact hQ)
      | (rw [markC, if_pos b5, if_neg (by omega), if_neg (by omega), if_pos (by omega)] at hQ; exact hQ)
      | (rw [markC, if_pos b5, if_neg (by omega), if_neg (by omega), if_neg (by omega), if_pos (by omega)] at hQ; exact hQ)
      | (rw [markC, if_pos b5, if_neg (by omega), if_neg (by omega), if_neg (by omega), if_neg (by omega), if_pos (by omega)] at hQ; exact hQ)
      | (rw [markC, if_pos b5, if_neg (by omega), if_neg (by omega), if_neg (by omega), if_neg (by omega), if_neg (by omega), if_pos (by omega)] at hQ; exact hQ)
      | (rw [markC, if_pos b5, if_neg (by omega), if_neg (by omega), if_neg (by omega), if_neg (by omega), if_neg (by omega), if_neg (by omega)] at hQ; exact hQ)
def edC (h : zH) (t d r : Int) : Nat → Int → Int
  | 0, _ => -9
  | n + 1, k => if h (t + 4) d - h 26 d < k then -9 else if hasb (rchC h t (h 25 d) k) r then min 60 (h (t + 4) d - h 26 d - k) else edC h t d r n (k + 1)
def edgeC (h : zH) (t d r : Int) : Int := if 0 ≤ d ∧ d < h t 2 then (if 0 ≤ r ∧ r < h t 0 then (if h 25 d = r then 60 else edC h t d r 10 0) else -1) else -1
theorem lpX9_edge {l : Launch} {g h : zH} {Q : zQt} {t : Int} {d r : Int} (hg : zGd g) (ht : t = 4 ∨ t = 14) (ht1 : g 1 1 = t) (hc : CB h t) (d0 : 0 ≤ d) (d1 : d < h t 2) : ∀ (n i : Nat), i + n = 10 → Q (some (zi (edC h t d r n i))) (SHL, g) h → zW zX0 l mX9_edge ((SHL, g).1.length + zmc mX9_edge) (ztot (SHL, g) + zms mX9_edge) Q 49 [some (zr 1), some (zi d), some (zi r), some (zi (h (t + 4) d - h 26 d)), some (zi (i : Int))] [] (SHL, g) h := by
  obtain ⟨ts0, ts1, ts2, ts3, ts4, ts5, ts6, ts7, ts8, ts9, tg4, tg5, tg6, tg7, tg8, tg9, tg10, tg11, tg12⟩ := houseF hg ht
  obtain ⟨⟨⟨m0, m1, m2, m3⟩, mp, md, mn⟩, ⟨nd, nc, nl⟩, ck, cs, cpp, cl, ct⟩ := id hc
  have f1 : (0 ≤ h 25 d ∧ h 25 d < h t 0) ∧ (0 ≤ h 26 d ∧ h 26 d ≤ 99) ∧ _ := nd d d0 d1
  have f2 := md d d0 d1
  intro n
  induction n with
  | zero =>
    intro i hi hQ
    refine z_iload dX9_edge_49 rfl ?_
    refine z_bipush dX9_edge_51 ⟨by decide, by decide⟩ ?_
    refine z_icmp_gt (tgt := 103) dX9_edge_53 (by decide) (fun _ => ?_) (fun q => False.elim (by omega))
    refine z_bipush dX9_edge_103 ⟨by decide, by decide⟩ ?_
    refine z_ret (v := some (zi _)) dX9_edge_105 trivial (Nat.add_zero _).symm (Nat.add_zero _).symm rfl ?_
    exact hQ
  | succ n ih =>
    intro i hi hQ
    refine z_iload dX9_edge_49 rfl ?_
    refine z_bipush dX9_edge_51 ⟨by decide, by decide⟩ ?_
    refine z_icmp_gt (tgt := 103) dX9_edge_53 (by decide) (fun q => False.elim (by omega)) (fun _ => ?_)
    refine z_iload dX9_edge_56 rfl ?_
    refine z_iload_n dX9_edge_58 rfl ?_
    refine z_icmp_gt (tgt := 103) dX9_edge_59 (by decide) (fun c59 => ?_) (fun c59 => ?_)
    ·
      have e9 : edC h t d r (n + 1) i = -9 := if_pos (by omega)
      rw [e9] at hQ
      refine z_bipush dX9_edge_103 ⟨by decide, by decide⟩ ?_
      refine z_ret (v := some (zi _)) dX9_edge_105 trivial (Nat.add_zero _).symm (Nat.add_zero _).symm rfl ?_
      exact hQ
    ·
      have e9 : edC h t d r (n + 1) i = (if hasb (rchC h t (h 25 d) i) r then min 60 (h (t + 4) d - h 26 d - i) else edC h t d r n ((i : Int) + 1)) := if_neg (by omega)
      rw [e9] at hQ
      refine z_aload_n dX9_edge_62 rfl (by omega) ?_
      refine y_geto (k' := 1) fl_X9_19 rfl dX9_edge_63 sh_1 (by decide) ht1 ?_
      refine z_aload_n dX9_edge_66 rfl (by omega) ?_
      refine y_geto (k' := 3) fl_X9_29 rfl dX9_edge_67 sh_1 (by decide) (gf_1_3 hg) ?_
      refine y_geta (k' := 0) fl_X9_127 rfl dX9_edge_70 sh_24 (by decide) (gf_24_0 hg) ?_
      refine z_iload_n dX9_edge_73 rfl ?_
      refine z_iaload dX9_edge_74 sh_25 (by omega) (by omega) rfl ?_
      refine z_iload dX9_edge_75 rfl ?_
      refine z_callV (T := mX4_reachable) (As := [_, _]) kX4_reachable ml_X9_142 ⟨by decide, by decide⟩ dX9_edge_77 rfl rfl (Nat.le_of_ble_eq_true rfl) ts0 ⟨by decide, rfl⟩ (Nat.le_refl _) (Nat.le_refl _) (qX4_reachable hg ht hc.1 (by omega) (by omega) ?_)
      refine z_iload_n dX9_edge_80 rfl ?_
      refine z_callS (T := mX9_has) (As := [_, _]) kX9_has ml_X9_190 ⟨by decide, by decide⟩ dX9_edge_81 rfl rfl (Nat.le_of_ble_eq_true rfl) (Nat.le_refl _) (Nat.le_refl _) (qX9_has (fun b81 => ?_) (fun b81 => ?_))
      ·
        refine z_if_eq (tgt := 97) dX9_edge_84 (by decide) (fun q => False.elim (by omega)) (fun _ => ?_)
        refine z_bipush dX9_edge_87 ⟨by decide, by decide⟩ ?_
        refine z_iload_n dX9_edge_89 rfl ?_
        refine z_iload dX9_edge_90 rfl ?_
        refine y_isub dX9_edge_92 (by omega) (by omega) ?_
        refine z_mmin kmin ml_X9_166 (by decide) (Nat.le_of_ble_eq_true rfl) (Nat.le_add_right _ _) (Nat.le_add_right _ _) dX9_edge_93 ?_
        refine z_ret (v := some (zi _)) dX9_edge_96 trivial (Nat.add_zero _).symm (Nat.add_zero _).symm rfl ?_
        rw [if_pos b81] at hQ
        exact hQ
      ·
        refine z_if_eq (tgt := 97) dX9_edge_84 (by decide) (fun _ => ?_) (fun q => False.elim (by omega))
        refine y_iinc dX9_edge_97 (by decide) rfl rfl (by omega) (by omega) lss_5_4 ?_
        refine z_goto (tgt := 49) dX9_edge_100 (by decide) ?_
        rw [if_neg b81] at hQ
        exact ih (i + 1) (by omega) hQ
theorem qX9_edge {l : Launch} {g h : zH} {Q : zQt} {t : Int} (hg : zGd g) (ht : t = 4 ∨ t = 14) (ht1 : g 1 1 = t) (hc : CB h t) {d r : Int} (hQ : Q (some (zi (edgeC h t d r))) (SHL, g) h) : zC l mX9_edge [zr 1, zi d, zi r] (SHL, g) h Q := by
  obtain ⟨ts0, ts1, ts2, ts3, ts4, ts5, ts6, ts7, ts8, ts9, tg4, tg5, tg6, tg7, tg8, tg9, tg10, tg11, tg12⟩ := houseF hg ht
  obtain ⟨⟨⟨m0, m1, m2, m3⟩, mp, md, mn⟩, ⟨nd, nc, nl⟩, ck, cs, cpp, cl, ct⟩ := id hc
  refine z_method kX9_edge.1 rfl (Nat.le_of_ble_eq_true rfl) (fun hok hh => ?_)
  refine z_aload_n dX9_edge_0 rfl (by omega) ?_
  refine y_geto (k' := 1) fl_X9_19 rfl dX9_edge_1 sh_1 (by decide) ht1 ?_
  refine z_iload_n dX9_edge_4 rfl ?_
  refine z_callV (T := mX4_hasDirector) (As := [_]) kX4_hasDirector ml_X9_115 ⟨by decide, by decide⟩ dX9_edge_5 rfl rfl (Nat.le_of_ble_eq_true rfl) ts0 ⟨by decide, rfl⟩ (Nat.le_refl _) (Nat.le_refl _) (qX4_hasDirector hg ht (fun b5 => ?_) (fun b5 => ?_))
  ·
    refine z_if_eq (tgt := 22) dX9_edge_8 (by decide) (fun q => False.elim (by omega)) (fun _ => ?_)
    refine z_aload_n dX9_edge_11 rfl (by omega) ?_
    refine y_geto (k' := 1) fl_X9_19 rfl dX9_edge_12 sh_1 (by decide) ht1 ?_
    refine z_iload_n dX9_edge_15 rfl ?_
    refine z_callV (T := mX4_hasRoom) (As := [_]) kX4_hasRoom ml_X9_175 ⟨by decide, by decide⟩ dX9_edge_16 rfl rfl (Nat.le_of_ble_eq_true rfl) ts0 ⟨by decide, rfl⟩ (Nat.le_refl _) (Nat.le_refl _) (qX4_hasRoom hg ht (fun b16 => ?_) (fun b16 => ?_))
    ·
      refine z_if_ne (tgt := 24) dX9_edge_19 (by decide) (fun _ => ?_) (fun q => False.elim (by omega))
      refine z_aload_n dX9_edge_24 rfl (by omega) ?_
      refine y_geto (k' := 3) fl_X9_29 rfl dX9_edge_25 sh_1 (by decide) (gf_1_3 hg) ?_
      refine y_geta (k' := 0) fl_X9_127 rfl dX9_edge_28 sh_24 (by decide) (gf_24_0 hg) ?_
      refine z_iload_n dX9_edge_31 rfl ?_
      refine z_iaload dX9_edge_32 sh_25 (by omega) (by omega) rfl ?_
      refine z_iload_n dX9_edge_33 rfl ?_
      refine z_icmp_ne (tgt := 40) dX9_edge_34 (by decide) (fun c34 => ?_) (fun c34 => ?_)
      ·
        refine z_aload_n dX9_edge_40 rfl (by omega) ?_
        refine z_iload_n dX9_edge_41 rfl ?_
        refine z_callV (T := mX9_strengthLeft) (As := [_]) kX9_strengthLeft ml_X9_139 ⟨by decide, by decide⟩ dX9_edge_42 rfl rfl (Nat.le_of_ble_eq_true rfl) sh_1 ⟨by decide, rfl⟩ (Nat.le_refl _) (Nat.le_refl _) (qX9_strengthLeft hg ht ht1 hc (by omega) (by omega) ?_)
        refine z_istore_n dX9_edge_45 (by decide) rfl lss_5_3 ?_
        refine z_iconst dX9_edge_46 ⟨by decide, by decide⟩ ?_
        refine z_istore dX9_edge_47 (by decide) rfl lss_5_4 ?_
        rw [edgeC, if_pos b5, if_pos b16, if_neg (by omega)] at hQ
        exact lpX9_edge hg ht ht1 hc b5.1 b5.2 10 0 rfl hQ
      ·
        refine z_bipush dX9_edge_37 ⟨by decide, by decide⟩ ?_
        refine z_ret (v := some (zi _)) dX9_edge_39 trivial (Nat.add_zero _).symm (Nat.add_zero _).symm rfl ?_
        first
          | (rw [edgeC, if_pos b5, if_pos b16, if_pos (by omega)] at hQ; exact hQ)
    ·
      refine z_if_ne (tgt := 24) dX9_edge_19 (by decide) (fun q => False.elim (by omega)) (fun _ => ?_)
      refine z_iconst dX9_edge_22 ⟨by decide, by decide⟩ ?_
      refine z_ret (v := some (zi _)) dX9_edge_23 trivial (Nat.add_zero _).symm (Nat.add_zero _).symm rfl ?_
      first
        | (rw [edgeC, if_neg b5] at hQ; exact hQ)
        | (rw [edgeC, if_pos b5, if_neg b16] at hQ; exact hQ)
  ·
    refine z_if_eq (tgt := 22) dX9_edge_8 (by decide) (fun _ => ?_) (fun q => False.elim (by omega))
    refine z_iconst dX9_edge_22 ⟨by decide, by decide⟩ ?_
    refine z_ret (v := some (zi _)) dX9_edge_23 trivial (Nat.add_zero _).symm (Nat.add_zero _).symm rfl ?_
    first
      | (rw [edgeC, if_neg b5] at hQ; exact hQ)
      | (rw [edgeC, if_pos b5, if_neg b16] at hQ; exact hQ)
