/-! The class: what is asked of it. -/
/-- the bounds of the class -/
def CB (h : zH) (t : Int) : Prop := HB h t ∧ NBc h t 24 ∧ (0 ≤ h 30 1 ∧ h 30 1 ≤ 10) ∧ (0 ≤ h 93 2 ∧ h 93 2 ≤ 4) ∧ (∀ i, 0 ≤ i → i < h 93 2 → 0 ≤ h 94 i ∧ h 94 i < h t 1) ∧ (0 ≤ h 2 1 ∧ h 2 1 ≤ 150) ∧ (0 ≤ h 1 9 ∧ h 1 9 ≤ 2000000000)
abbrev mayC (h : zH) (t d p : Int) : Prop := h (t + 3) p ≤ h (t + 4) d - h 26 d
def mayCS (h : zH) (t p : Int) : Int := bset (fun d => decide (mayC h t d p)) (h t 2).toNat
theorem qX9_strengthLeft {l : Launch} {g h : zH} {Q : zQt} {t : Int} (hg : zGd g) (ht : t = 4 ∨ t = 14) (ht1 : g 1 1 = t) (hc : CB h t) {d : Int} (d0 : 0 ≤ d) (d1 : d < h t 2) (hQ : Q (some (zi (h (t + 4) d - h 26 d))) (SHL, g) h) : zC l mX9_strengthLeft [zr 1, zi d] (SHL, g) h Q := by
  obtain ⟨ts0, ts1, ts2, ts3, ts4, ts5, ts6, ts7, ts8, ts9, tg4, tg5, tg6, tg7, tg8, tg9, tg10, tg11, tg12⟩ := houseF hg ht
  obtain ⟨⟨⟨m0, m1, m2, m3⟩, mp, md, mn⟩, ⟨nd, nc, nl⟩, ck, cs, cpp, cl, ct⟩ := id hc
  refine z_method kX9_strengthLeft.1 rfl (Nat.le_of_ble_eq_true rfl) (fun hok hh => ?_)
  have f1 : 0 ≤ h 26 d ∧ h 26 d ≤ 99 := (nd d d0 d1).2.1
  have f2 := md d d0 d1
  refine z_aload_n dX9_strengthLeft_0 rfl (by omega) ?_
  refine y_geto (k' := 1) fl_X9_19 rfl dX9_strengthLeft_1 sh_1 (by decide) ht1 ?_
  refine y_geta (k' := 7) fl_X9_118 rfl dX9_strengthLeft_4 ts0 (by decide) tg7 ?_
  refine z_iload_n dX9_strengthLeft_7 rfl ?_
  refine z_iaload dX9_strengthLeft_8 ts4 (by omega) (by omega) rfl ?_
  refine z_aload_n dX9_strengthLeft_9 rfl (by omega) ?_
  refine y_geto (k' := 3) fl_X9_29 rfl dX9_strengthLeft_10 sh_1 (by decide) (gf_1_3 hg) ?_
  refine y_geta (k' := 1) fl_X9_121 rfl dX9_strengthLeft_13 sh_24 (by decide) (gf_24_1 hg) ?_
  refine z_iload_n dX9_strengthLeft_16 rfl ?_
  refine z_iaload dX9_strengthLeft_17 sh_26 (by omega) (by omega) rfl ?_
  refine y_isub dX9_strengthLeft_18 (by omega) (by omega) ?_
  refine z_ret (v := some (zi _)) dX9_strengthLeft_19 trivial (Nat.add_zero _).symm (Nat.add_zero _).symm rfl ?_
  exact hQ
theorem qX9_mayGo {l : Launch} {g h : zH} {Q : zQt} {t : Int} (hg : zGd g) (ht : t = 4 ∨ t = 14) (ht1 : g 1 1 = t) (hc : CB h t) {d p : Int} (d0 : 0 ≤ d) (d1 : d < h t 2) (p0 : 0 ≤ p) (p1 : p < h t 1) (h1 : mayC h t d p → Q (some (zi 1)) (SHL, g) h) (h0 : ¬ mayC h t d p → Q (some (zi 0)) (SHL, g) h) : zC l mX9_mayGo [zr 1, zi d, zi p] (SHL, g) h Q := by
  obtain ⟨ts0, ts1, ts2, ts3, ts4, ts5, ts6, ts7, ts8, ts9, tg4, tg5, tg6, tg7, tg8, tg9, tg10, tg11, tg12⟩ := houseF hg ht
  obtain ⟨⟨⟨m0, m1, m2, m3⟩, mp, md, mn⟩, ⟨nd, nc, nl⟩, ck, cs, cpp, cl, ct⟩ := id hc
  refine z_method kX9_mayGo.1 rfl (Nat.le_of_ble_eq_true rfl) (fun hok hh => ?_)
  refine z_aload_n dX9_mayGo_0 rfl (by omega) ?_
  refine y_geto (k' := 1) fl_X9_19 rfl dX9_mayGo_1 sh_1 (by decide) ht1 ?_
  refine y_geta (k' := 6) fl_X9_108 rfl dX9_mayGo_4 ts0 (by decide) tg6 ?_
  refine z_iload_n dX9_mayGo_7 rfl ?_
  refine z_iaload dX9_mayGo_8 ts3 (by omega) (by omega) rfl ?_
  refine z_aload_n dX9_mayGo_9 rfl (by omega) ?_
  refine z_iload_n dX9_mayGo_10 rfl ?_
  refine z_callV (T := mX9_strengthLeft) (As := [_]) kX9_strengthLeft ml_X9_139 ⟨by decide, by decide⟩ dX9_mayGo_11 rfl rfl (Nat.le_of_ble_eq_true rfl) sh_1 ⟨by decide, rfl⟩ (Nat.le_refl _) (Nat.le_refl _) (qX9_strengthLeft hg ht ht1 hc (by omega) (by omega) ?_)
  refine z_icmp_gt (tgt := 21) dX9_mayGo_14 (by decide) (fun c14 => ?_) (fun c14 => ?_)
  ·
    refine z_iconst dX9_mayGo_21 ⟨by decide, by decide⟩ ?_
    refine z_ret (v := some (zi _)) dX9_mayGo_22 (Or.inl rfl) (Nat.add_zero _).symm (Nat.add_zero _).symm rfl ?_
    first | exact h1 (by unfold mayC; omega) | exact h0 (by unfold mayC; omega)
  ·
    refine z_iconst dX9_mayGo_17 ⟨by decide, by decide⟩ ?_
    refine z_goto (tgt := 22) dX9_mayGo_18 (by decide) ?_
    refine z_ret (v := some (zi _)) dX9_mayGo_22 (Or.inr rfl) (Nat.add_zero _).symm (Nat.add_zero _).symm rfl ?_
    first | exact h1 (by unfold mayC; omega) | exact h0 (by unfold mayC; omega)
theorem lpX9_whoMay {l : Launch} {g h : zH} {Q : zQt} {t p : Int} (hg : zGd g) (ht : t = 4 ∨ t = 14) (ht1 : g 1 1 = t) (hc : CB h t) (p0 : 0 ≤ p) (p1 : p < h t 1) (K : zW zX0 l mX9_whoMayGo ((SHL, g).1.length + zmc mX9_whoMayGo) (ztot (SHL, g) + zms mX9_whoMayGo) Q 36 [some (zr 1), some (zi p), some (zi (bset (fun d => decide (mayC h t d p)) ((h t 2).toNat))), some (zi (((h t 2).toNat : Nat) : Int))] [] (SHL, g) (h)) : ∀ (n i : Nat), i + n = (h t 2).toNat → zW zX0 l mX9_whoMayGo ((SHL, g).1.length + zmc mX9_whoMayGo) (ztot (SHL, g) + zms mX9_whoMayGo) Q 4 [some (zr 1), some (zi p), some (zi (bset (fun d => decide (mayC h t d p)) i)), some (zi (i : Int))] [] (SHL, g) (h) := by
  obtain ⟨ts0, ts1, ts2, ts3, ts4, ts5, ts6, ts7, ts8, ts9, tg4, tg5, tg6, tg7, tg8, tg9, tg10, tg11, tg12⟩ := houseF hg ht
  obtain ⟨⟨⟨m0, m1, m2, m3⟩, mp, md, mn⟩, ⟨nd, nc, nl⟩, ck, cs, cpp, cl, ct⟩ := id hc
  intro n
  induction n with
  | zero =>
    intro i hi 
    have e9 : i = (h t 2).toNat := by omega
    subst e9
    refine z_iload_n dX9_whoMayGo_4 rfl ?_
    refine z_aload_n dX9_whoMayGo_5 rfl (by omega) ?_
    refine y_geto (k' := 1) fl_X9_19 rfl dX9_whoMayGo_6 sh_1 (by decide) ht1 ?_
    refine y_geti (k' := 2) fl_X9_187 rfl dX9_whoMayGo_9 ts0 (by decide) rfl ?_
    refine z_icmp_ge (tgt := 36) dX9_whoMayGo_12 (by decide) (fun _ => ?_) (fun q => False.elim (by omega))
    exact K
  | succ n ih =>
    intro i hi 
    refine z_iload_n dX9_whoMayGo_4 rfl ?_
    refine z_aload_n dX9_whoMayGo_5 rfl (by omega) ?_
    refine y_geto (k' := 1) fl_X9_19 rfl dX9_whoMayGo_6 sh_1 (by decide) ht1 ?_
    refine y_geti (k' := 2) fl_X9_187 rfl dX9_whoMayGo_9 ts0 (by decide) rfl ?_
    refine z_icmp_ge (tgt := 36) dX9_whoMayGo_12 (by decide) (fun q => False.elim (by omega)) (fun _ => ?_)
    refine z_aload_n dX9_whoMayGo_15 rfl (by omega) ?_
    refine z_iload_n dX9_whoMayGo_16 rfl ?_
    refine z_iload_n dX9_whoMayGo_17 rfl ?_
    refine z_callV (T := mX9_mayGo) (As := [_, _]) kX9_mayGo ml_X9_158 ⟨by decide, by decide⟩ dX9_whoMayGo_18 rfl rfl (Nat.le_of_ble_eq_true rfl) sh_1 ⟨by decide, rfl⟩ (Nat.le_refl _) (Nat.le_refl _) (qX9_mayGo hg ht ht1 hc (by omega) (by omega) (by omega) (by omega) (fun b18 => ?_) (fun b18 => ?_))
    ·
      refine z_if_eq (tgt := 30) dX9_whoMayGo_21 (by decide) (fun q => False.elim (by omega)) (fun _ => ?_)
      refine z_iload_n dX9_whoMayGo_24 rfl ?_
      refine z_iconst dX9_whoMayGo_25 ⟨by decide, by decide⟩ ?_
      refine z_iload_n dX9_whoMayGo_26 rfl ?_
      refine z_ishl dX9_whoMayGo_27 ?_
      refine z_ior dX9_whoMayGo_28 ?_
      refine z_istore_n dX9_whoMayGo_29 (by decide) rfl lss_4_2 ?_
      refine y_iinc dX9_whoMayGo_30 (by decide) rfl rfl (by omega) (by omega) lss_4_3 ?_
      refine z_goto (tgt := 4) dX9_whoMayGo_33 (by decide) ?_
      have q := ih (i + 1) (by omega)
      first
        | (rw [bset_t (f := fun d => decide (mayC h t d p)) (decide_eq_true b18)] at q; exact q)
        | (rw [bset_f (f := fun d => decide (mayC h t d p)) (decide_eq_false b18)] at q; exact q)
    ·
      refine z_if_eq (tgt := 30) dX9_whoMayGo_21 (by decide) (fun _ => ?_) (fun q => False.elim (by omega))
      refine y_iinc dX9_whoMayGo_30 (by decide) rfl rfl (by omega) (by omega) lss_4_3 ?_
      refine z_goto (tgt := 4) dX9_whoMayGo_33 (by decide) ?_
      have q := ih (i + 1) (by omega)
      first
        | (rw [bset_t (f := fun d => decide (mayC h t d p)) (decide_eq_true b18)] at q; exact q)
        | (rw [bset_f (f := fun d => decide (mayC h t d p)) (decide_eq_false b18)] at q; exact q)
theorem qX9_whoMayGo {l : Launch} {g h : zH} {Q : zQt} {t : Int} (hg : zGd g) (ht : t = 4 ∨ t = 14) (ht1 : g 1 1 = t) (hc : CB h t) {p : Int} (p0 : 0 ≤ p) (p1 : p < h t 1) (hQ : Q (some (zi (mayCS h t p))) (SHL, g) h) : zC l mX9_whoMayGo [zr 1, zi p] (SHL, g) h Q := by
  obtain ⟨ts0, ts1, ts2, ts3, ts4, ts5, ts6, ts7, ts8, ts9, tg4, tg5, tg6, tg7, tg8, tg9, tg10, tg11, tg12⟩ := houseF hg ht
  obtain ⟨⟨⟨m0, m1, m2, m3⟩, mp, md, mn⟩, ⟨nd, nc, nl⟩, ck, cs, cpp, cl, ct⟩ := id hc
  refine z_method kX9_whoMayGo.1 rfl (Nat.le_of_ble_eq_true rfl) (fun hok hh => ?_)
  refine z_iconst dX9_whoMayGo_0 ⟨by decide, by decide⟩ ?_
  refine z_istore_n dX9_whoMayGo_1 (by decide) rfl lss_4_2 ?_
  refine z_iconst dX9_whoMayGo_2 ⟨by decide, by decide⟩ ?_
  refine z_istore_n dX9_whoMayGo_3 (by decide) rfl lss_4_3 ?_
  refine lpX9_whoMay (p := p) hg ht ht1 hc p0 p1 ?_ _ 0 (Nat.zero_add _)
  refine z_iload_n dX9_whoMayGo_36 rfl ?_
  refine z_ret (v := some (zi _)) dX9_whoMayGo_37 trivial (Nat.add_zero _).symm (Nat.add_zero _).symm rfl ?_
  exact hQ
def inC (h : zH) (t r : Int) : Int := bset (fun d => decide (h 25 d = r)) (h t 2).toNat
def stC (h : zH) (t : Int) : Int := sumN (fun d => h 26 d) (h t 2).toNat
theorem lpX9_whoIn {l : Launch} {g h : zH} {Q : zQt} {t r : Int} (hg : zGd g) (ht : t = 4 ∨ t = 14) (ht1 : g 1 1 = t) (hc : CB h t) (K : zW zX0 l mX9_whoIsIn ((SHL, g).1.length + zmc mX9_whoIsIn) (ztot (SHL, g) + zms mX9_whoIsIn) Q 40 [some (zr 1), some (zi r), some (zi (bset (fun d => decide (h 25 d = r)) ((h t 2).toNat))), some (zi (((h t 2).toNat : Nat) : Int))] [] (SHL, g) (h)) : ∀ (n i : Nat), i + n = (h t 2).toNat → zW zX0 l mX9_whoIsIn ((SHL, g).1.length + zmc mX9_whoIsIn) (ztot (SHL, g) + zms mX9_whoIsIn) Q 4 [some (zr 1), some (zi r), some (zi (bset (fun d => decide (h 25 d = r)) i)), some (zi (i : Int))] [] (SHL, g) (h) := by
  obtain ⟨ts0, ts1, ts2, ts3, ts4, ts5, ts6, ts7, ts8, ts9, tg4, tg5, tg6, tg7, tg8, tg9, tg10, tg11, tg12⟩ := houseF hg ht
  obtain ⟨⟨⟨m0, m1, m2, m3⟩, mp, md, mn⟩, ⟨nd, nc, nl⟩, ck, cs, cpp, cl, ct⟩ := id hc
  intro n
  induction n with
  | zero =>
    intro i hi 
    have e9 : i = (h t 2).toNat := by omega
    subst e9
    refine z_iload_n dX9_whoIsIn_4 rfl ?_
    refine z_aload_n dX9_whoIsIn_5 rfl (by omega) ?_
    refine y_geto (k' := 1) fl_X9_19 rfl dX9_whoIsIn_6 sh_1 (by decide) ht1 ?_
    refine y_geti (k' := 2) fl_X9_187 rfl dX9_whoIsIn_9 ts0 (by decide) rfl ?_
    refine z_icmp_ge (tgt := 40) dX9_whoIsIn_12 (by decide) (fun _ => ?_) (fun q => False.elim (by omega))
    exact K
  | succ n ih =>
    intro i hi 
    refine z_iload_n dX9_whoIsIn_4 rfl ?_
    refine z_aload_n dX9_whoIsIn_5 rfl (by omega) ?_
    refine y_geto (k' := 1) fl_X9_19 rfl dX9_whoIsIn_6 sh_1 (by decide) ht1 ?_
    refine y_geti (k' := 2) fl_X9_187 rfl dX9_whoIsIn_9 ts0 (by decide) rfl ?_
    refine z_icmp_ge (tgt := 40) dX9_whoIsIn_12 (by decide) (fun q => False.elim (by omega)) (fun _ => ?_)
    refine z_aload_n dX9_whoIsIn_15 rfl (by omega) ?_
    refine y_geto (k' := 3) fl_X9_29 rfl dX9_whoIsIn_16 sh_1 (by decide) (gf_1_3 hg) ?_
    refine y_geta (k' := 0) fl_X9_127 rfl dX9_whoIsIn_19 sh_24 (by decide) (gf_24_0 hg) ?_
    refine z_iload_n dX9_whoIsIn_22 rfl ?_
    refine z_iaload dX9_whoIsIn_23 sh_25 (by omega) (by omega) rfl ?_
    refine z_iload_n dX9_whoIsIn_24 rfl ?_
    refine z_icmp_ne (tgt := 34) dX9_whoIsIn_25 (by decide) (fun c25 => ?_) (fun c25 => ?_)
    ·
      refine y_iinc dX9_whoIsIn_34 (by decide) rfl rfl (by omega) (by omega) lss_4_3 ?_
      refine z_goto (tgt := 4) dX9_whoIsIn_37 (by decide) ?_
      have q := ih (i + 1) (by omega)
      first
        | (rw [bset_t (f := fun d => decide (h 25 d = r)) (decide_eq_true (show h 25 (i : Int) = r by omega))] at q; exact q)
        | (rw [bset_f (f := fun d => decide (h 25 d = r)) (decide_eq_false (show ¬ h 25 (i : Int) = r by omega))] at q; exact q)
    ·
      refine z_iload_n dX9_whoIsIn_28 rfl ?_
      refine z_iconst dX9_whoIsIn_29 ⟨by decide, by decide⟩ ?_
      refine z_iload_n dX9_whoIsIn_30 rfl ?_
      refine z_ishl dX9_whoIsIn_31 ?_
      refine z_ior dX9_whoIsIn_32 ?_
      refine z_istore_n dX9_whoIsIn_33 (by decide) rfl lss_4_2 ?_
      refine y_iinc dX9_whoIsIn_34 (by decide) rfl rfl (by omega) (by omega) lss_4_3 ?_
      refine z_goto (tgt := 4) dX9_whoIsIn_37 (by decide) ?_
      have q := ih (i + 1) (by omega)
      first
        | (rw [bset_t (f := fun d => decide (h 25 d = r)) (decide_eq_true (show h 25 (i : Int) = r by omega))] at q; exact q)
        | (rw [bset_f (f := fun d => decide (h 25 d = r)) (decide_eq_false (show ¬ h 25 (i : Int) = r by omega))] at q; exact q)
theorem qX9_whoIsIn {l : Launch} {g h : zH} {Q : zQt} {t : Int} (hg : zGd g) (ht : t = 4 ∨ t = 14) (ht1 : g 1 1 = t) (hc : CB h t) {r : Int} (hQ : Q (some (zi (inC h t r))) (SHL, g) h) : zC l mX9_whoIsIn [zr 1, zi r] (SHL, g) h Q := by
  obtain ⟨ts0, ts1, ts2, ts3, ts4, ts5, ts6, ts7, ts8, ts9, tg4, tg5, tg6, tg7, tg8, tg9, tg10, tg11, tg12⟩ := houseF hg ht
  obtain ⟨⟨⟨m0, m1, m2, m3⟩, mp, md, mn⟩, ⟨nd, nc, nl⟩, ck, cs, cpp, cl, ct⟩ := id hc
  refine z_method kX9_whoIsIn.1 rfl (Nat.le_of_ble_eq_true rfl) (fun hok hh => ?_)
  refine z_iconst dX9_whoIsIn_0 ⟨by decide, by decide⟩ ?_
  refine z_istore_n dX9_whoIsIn_1 (by decide) rfl lss_4_2 ?_
  refine z_iconst dX9_whoIsIn_2 ⟨by decide, by decide⟩ ?_
  refine z_istore_n dX9_whoIsIn_3 (by decide) rfl lss_4_3 ?_
  refine lpX9_whoIn (r := r) hg ht ht1 hc ?_ _ 0 (Nat.zero_add _)
  refine z_iload_n dX9_whoIsIn_40 rfl ?_
  refine z_ret (v := some (zi _)) dX9_whoIsIn_41 trivial (Nat.add_zero _).symm (Nat.add_zero _).symm rfl ?_
  exact hQ
theorem lpX9_stones {l : Launch} {g h : zH} {Q : zQt} {t : Int} (hg : zGd g) (ht : t = 4 ∨ t = 14) (ht1 : g 1 1 = t) (m2 : 0 ≤ h t 2 ∧ h t 2 ≤ 6) (hs : ∀ d, 0 ≤ d → d < h t 2 → 0 ≤ h 26 d ∧ h 26 d ≤ 99) (K : zW zX0 l mX9_stonesTogether ((SHL, g).1.length + zmc mX9_stonesTogether) (ztot (SHL, g) + zms mX9_stonesTogether) Q 33 [some (zr 1), some (zi (sumN (fun d => h 26 d) ((h t 2).toNat))), some (zi (((h t 2).toNat : Nat) : Int))] [] (SHL, g) (h)) : ∀ (n i : Nat), i + n = (h t 2).toNat → zW zX0 l mX9_stonesTogether ((SHL, g).1.length + zmc mX9_stonesTogether) (ztot (SHL, g) + zms mX9_stonesTogether) Q 4 [some (zr 1), some (zi (sumN (fun d => h 26 d) i)), some (zi (i : Int))] [] (SHL, g) (h) := by
  obtain ⟨ts0, ts1, ts2, ts3, ts4, ts5, ts6, ts7, ts8, ts9, tg4, tg5, tg6, tg7, tg8, tg9, tg10, tg11, tg12⟩ := houseF hg ht
  intro n
  induction n with
  | zero =>
    intro i hi 
    have e9 : i = (h t 2).toNat := by omega
    subst e9
    refine z_iload_n dX9_stonesTogether_4 rfl ?_
    refine z_aload_n dX9_stonesTogether_5 rfl (by omega) ?_
    refine y_geto (k' := 1) fl_X9_19 rfl dX9_stonesTogether_6 sh_1 (by decide) ht1 ?_
    refine y_geti (k' := 2) fl_X9_187 rfl dX9_stonesTogether_9 ts0 (by decide) rfl ?_
    refine z_icmp_ge (tgt := 33) dX9_stonesTogether_12 (by decide) (fun _ => ?_) (fun q => False.elim (by omega))
    exact K
  | succ n ih =>
    intro i hi 
    have f1 := hs i (by omega) (by omega)
    have f2 := sumN_r (f := fun d => h 26 d) (B := 99) (N := (h t 2).toNat) (fun d d0 d1 => hs d d0 (by omega)) i (by omega)
    refine z_iload_n dX9_stonesTogether_4 rfl ?_
    refine z_aload_n dX9_stonesTogether_5 rfl (by omega) ?_
    refine y_geto (k' := 1) fl_X9_19 rfl dX9_stonesTogether_6 sh_1 (by decide) ht1 ?_
    refine y_geti (k' := 2) fl_X9_187 rfl dX9_stonesTogether_9 ts0 (by decide) rfl ?_
    refine z_icmp_ge (tgt := 33) dX9_stonesTogether_12 (by decide) (fun q => False.elim (by omega)) (fun _ => ?_)
    refine z_iload_n dX9_stonesTogether_15 rfl ?_
    refine z_aload_n dX9_stonesTogether_16 rfl (by omega) ?_
    refine y_geto (k' := 3) fl_X9_29 rfl dX9_stonesTogether_17 sh_1 (by decide) (gf_1_3 hg) ?_
    refine y_geta (k' := 1) fl_X9_121 rfl dX9_stonesTogether_20 sh_24 (by decide) (gf_24_1 hg) ?_
    refine z_iload_n dX9_stonesTogether_23 rfl ?_
    refine z_iaload dX9_stonesTogether_24 sh_26 (by omega) (by omega) rfl ?_
    refine y_iadd dX9_stonesTogether_25 (by omega) (by omega) ?_
    refine z_istore_n dX9_stonesTogether_26 (by decide) rfl lss_3_1 ?_
    refine y_iinc dX9_stonesTogether_27 (by decide) rfl rfl (by omega) (by omega) lss_3_2 ?_
    refine z_goto (tgt := 4) dX9_stonesTogether_30 (by decide) ?_
    exact ih (i + 1) (by omega)
theorem qX9_stonesTogether {l : Launch} {g h : zH} {Q : zQt} {t : Int} (hg : zGd g) (ht : t = 4 ∨ t = 14) (ht1 : g 1 1 = t) (m2 : 0 ≤ h t 2 ∧ h t 2 ≤ 6) (hs : ∀ d, 0 ≤ d → d < h t 2 → 0 ≤ h 26 d ∧ h 26 d ≤ 99) (hQ : Q (some (zi (stC h t))) (SHL, g) h) : zC l mX9_stonesTogether [zr 1] (SHL, g) h Q := by
  obtain ⟨ts0, ts1, ts2, ts3, ts4, ts5, ts6, ts7, ts8, ts9, tg4, tg5, tg6, tg7, tg8, tg9, tg10, tg11, tg12⟩ := houseF hg ht
  refine z_method kX9_stonesTogether.1 rfl (Nat.le_of_ble_eq_true rfl) (fun hok hh => ?_)
  refine z_iconst dX9_stonesTogether_0 ⟨by decide, by decide⟩ ?_
  refine z_istore_n dX9_stonesTogether_1 (by decide) rfl lss_3_1 ?_
  refine z_iconst dX9_stonesTogether_2 ⟨by decide, by decide⟩ ?_
  refine z_istore_n dX9_stonesTogether_3 (by decide) rfl lss_3_2 ?_
  refine lpX9_stones hg ht ht1 m2 hs ?_ _ 0 (Nat.zero_add _)
  refine z_iload_n dX9_stonesTogether_33 rfl ?_
  refine z_ret (v := some (zi _)) dX9_stonesTogether_34 trivial (Nat.add_zero _).symm (Nat.add_zero _).symm rfl ?_
  exact hQ
def pathC (h : zH) (t p w : Int) : Int := if 0 ≤ p ∧ p < h t 1 then (if w = 0 then h (t + 1) p else if w = 1 then h (t + 2) p else if w = 2 then h (t + 3) p else if w = 3 then mayCS h t p else -1) else -1
theorem qX9_path {l : Launch} {g h : zH} {Q : zQt} {t : Int} (hg : zGd g) (ht : t = 4 ∨ t = 14) (ht1 : g 1 1 = t) (hc : CB h t) {p x : Int} (hQ : Q (some (zi (pathC h t p x))) (SHL, g) h) : zC l mX9_path [zr 1, zi p, zi x] (SHL, g) h Q := by
  obtain ⟨ts0, ts1, ts2, ts3, ts4, ts5, ts6, ts7, ts8, ts9, tg4, tg5, tg6, tg7, tg8, tg9, tg10, tg11, tg12⟩ := houseF hg ht
  obtain ⟨⟨⟨m0, m1, m2, m3⟩, mp, md, mn⟩, ⟨nd, nc, nl⟩, ck, cs, cpp, cl, ct⟩ := id hc
  refine z_method kX9_path.1 rfl (Nat.le_of_ble_eq_true rfl) (fun hok hh => ?_)
  refine z_aload_n dX9_path_0 rfl (by omega) ?_
  refine y_geto (k' := 1) fl_X9_19 rfl dX9_path_1 sh_1 (by decide) ht1 ?_
  refine z_iload_n dX9_path_4 rfl ?_
  refine z_callV (T := mX4_hasPath) (As := [_]) kX4_hasPath ml_X9_98 ⟨by decide, by decide⟩ dX9_path_5 rfl rfl (Nat.le_of_ble_eq_true rfl) ts0 ⟨by decide, rfl⟩ (Nat.le_refl _) (Nat.le_refl _) (qX4_hasPath hg ht (fun b5 => ?_) (fun b5 => ?_))
  ·
    refine z_if_ne (tgt := 13) dX9_path_8 (by decide) (fun _ => ?_) (fun q => False.elim (by omega))
    refine z_iload_n dX9_path_13 rfl ?_
    refine y_ts (td := 80) [44, 54, 64, 74] dX9_path_14 (by decide) (by decide) (by decide) (fun c14 => ?_) (fun j14 hj14 c14 => ?_)
    ·
      refine z_iconst dX9_path_80 ⟨by decide, by decide⟩ ?_
      refine z_ret (v := some (zi _)) dX9_path_81 trivial (Nat.add_zero _).symm (Nat.add_zero _).symm rfl ?_
      first
        | (rw [pathC, if_neg b5] at hQ; exact hQ)
        | (rw [pathC, if_pos b5, if_pos (by omega)] at hQ; exact hQ)
        | (rw [pathC, if_pos b5, if_neg (by omega), if_pos (by omega)] at hQ; exact hQ)
        | (rw [pathC, if_pos b5, if_neg (by omega), if_neg (by omega), if_pos (by omega)] at hQ; exact hQ)
        | (rw [pathC, if_pos b5, if_neg (by omega), if_neg (by omega), if_neg (by omega), if_pos (by omega)] at hQ; exact hQ)
        | (rw [pathC, if_pos b5, if_neg (by omega), if_neg (by omega), if_neg (by omega), if_neg (by omega)] at hQ; exact hQ)
    ·
      rcases (show j14 = 0 ∨ j14 = 1 ∨ j14 = 2 ∨ j14 = 3 by have h9 : j14 < 4 := hj14; omega) with rfl | rfl | rfl | rfl
      ·
        refine z_aload_n dX9_path_44 rfl (by omega) ?_
        refine y_geto (k' := 1) fl_X9_19 rfl dX9_path_45 sh_1 (by decide) ht1 ?_
        refine y_geta (k' := 4) fl_X9_101 rfl dX9_path_48 ts0 (by decide) tg4 ?_
        refine z_iload_n dX9_path_51 rfl ?_
        refine z_iaload dX9_path_52 ts1 (by omega) (by omega) rfl ?_
        refine z_ret (v := some (zi _)) dX9_path_53 trivial (Nat.add_zero _).symm (Nat.add_zero _).symm rfl ?_
        first
          | (rw [pathC, if_neg b5] at hQ; exact hQ)
          | (rw [pathC, if_pos b5, if_pos (by omega)] at hQ; exact hQ)
          | (rw [pathC, if_pos b5, if_neg (by omega), if_pos (by omega)] at hQ; exact hQ)
          | (rw [pathC, if_pos b5, if_neg (by omega), if_neg (by omega), if_pos (by omega)] at hQ; exact hQ)
          | (rw [pathC, if_pos b5, if_neg (by omega), if_neg (by omega), if_neg (by omega), if_pos (by omega)] at hQ; exact hQ)
          | (rw [pathC, if_pos b5, if_neg (by omega), if_neg (by omega), if_neg (by omega), if_neg (by omega)] at hQ; exact hQ)
      ·
        refine z_aload_n dX9_path_54 rfl (by omega) ?_
        refine y_geto (k' := 1) fl_X9_19 rfl dX9_path_55 sh_1 (by decide) ht1 ?_
        refine y_geta (k' := 5) fl_X9_105 rfl dX9_path_58 ts0 (by decide) tg5 ?_
        refine z_iload_n dX9_path_61 rfl ?_
        refine z_iaload dX9_path_62 ts2 (by omega) (by omega) rfl ?_
        refine z_ret (v := some (zi _)) dX9_path_63 trivial (Nat.add_zero _).symm (Nat.add_zero _).symm rfl ?_
        first
          | (rw [pathC, if_neg b5] at hQ; exact hQ)
          | (rw [pathC, if_pos b5, if_pos (by omega)] at hQ; exact hQ)
          | (rw [pathC, if_pos b5, if_neg (by omega), if_pos (by omega)] at hQ; exact hQ)
          | (rw [pathC, if_pos b5, if_neg (by omega), if_neg (by omega), if_pos (by omega)] at hQ; exact hQ)
          | (rw [pathC, if_pos b5, if_neg (by omega), if_neg (by omega), if_neg (by omega), if_pos (by omega)] at hQ; exact hQ)
          | (rw [pathC, if_pos b5, if_neg (by omega), if_neg (by omega), if_neg (by omega), if_neg (by omega)] at hQ; exact hQ)
      ·
        refine z_aload_n dX9_path_64 rfl (by omega) ?_
        refine y_geto (k' := 1) fl_X9_19 rfl dX9_path_65 sh_1 (by decide) ht1 ?_
        refine y_geta (k' := 6) fl_X9_108 rfl dX9_path_68 ts0 (by decide) tg6 ?_
        refine z_iload_n dX9_path_71 rfl ?_
        refine z_iaload dX9_path_72 ts3 (by omega) (by omega) rfl ?_
        refine z_ret (v := some (zi _)) dX9_path_73 trivial (Nat.add_zero _).symm (Nat.add_zero _).symm rfl ?_
        first
          | (rw [pathC, if_neg b5] at hQ; exact hQ)
          | (rw [pathC, if_pos b5, if_pos (by omega)] at hQ; exact hQ)
          | (rw [pathC, if_pos b5, if_neg (by omega), if_pos (by omega)] at hQ; exact hQ)
          | (rw [pathC, if_pos b5, if_neg (by omega), if_neg (by omega), if_pos (by omega)] at hQ; exact hQ)
          | (rw [pathC, if_pos b5, if_neg (by omega), if_neg (by omega), if_neg (by omega), if_pos (by omega)] at hQ; exact hQ)
          | (rw [pathC, if_pos b5, if_neg (by omega), if_neg (by omega), if_neg (by omega), if_neg (by omega)] at hQ; exact hQ)
      ·
        refine z_aload_n dX9_path_74 rfl (by omega) ?_
        refine z_iload_n dX9_path_75 rfl ?_
        refine z_callV (T := mX9_whoMayGo) (As := [_]) kX9_whoMayGo ml_X9_111 ⟨by decide, by decide⟩ dX9_path_76 rfl rfl (Nat.le_of_ble_eq_true rfl) sh_1 ⟨by decide, rfl⟩ (Nat.le_refl _) (Nat.le_refl _) (qX9_whoMayGo hg ht ht1 hc (by omega) (by omega) ?_)
        refine z_ret (v := some (zi _)) dX9_path_79 trivial (Nat.add_zero _).symm (Nat.add_zero _).symm rfl ?_
        first
          | (rw [pathC, if_neg b5] at hQ; exact hQ)
          | (rw [pathC, if_pos b5, if_pos (by omega)] at hQ; exact hQ)
          | (rw [pathC, if_pos b5, if_neg (by omega), if_pos (by omega)] at hQ; exact hQ)
          | (rw [pathC, if_pos b5, if_neg (by omega), if_neg (by omega), if_pos (by omega)] at hQ; exact hQ)
          | (rw [pathC, if_pos b5, if_neg (by omega), if_neg (by omega), if_neg (by omega), if_pos (by omega)] at hQ; exact hQ)
          | (rw [pathC, if_pos b5, if_neg (by omega), if_neg (by omega), if_neg (by omega), if_neg (by omega)] at hQ; exact hQ)
  ·
    refine z_if_ne (tgt := 13) dX9_path_8 (by decide) (fun q => False.elim (by omega)) (fun _ => ?_)
    refine z_iconst dX9_path_11 ⟨by decide, by decide⟩ ?_
    refine z_ret (v := some (zi _)) dX9_path_12 trivial (Nat.add_zero _).symm (Nat.add_zero _).symm rfl ?_
    first
      | (rw [pathC, if_neg b5] at hQ; exact hQ)
      | (rw [pathC, if_pos b5, if_pos (by omega)] at hQ; exact hQ)
      | (rw [pathC, if_pos b5, if_neg (by omega), if_pos (by omega)] at hQ; exact hQ)
      | (rw [pathC, if_pos b5, if_neg (by omega), if_neg (by omega), if_pos (by omega)] at hQ; exact hQ)
      | (rw [pathC, if_pos b5, if_neg (by omega), if_neg (by omega), if_neg (by omega), if_pos (by omega)] at hQ; exact hQ)
      | (rw [pathC, if_pos b5, if_neg (by omega), if_neg (by omega), if_neg (by omega), if_neg (by omega)] at hQ; exact hQ)
def dirC (h : zH) (t d w : Int) : Int := if 0 ≤ d ∧ d < h t 2 then (if w = 0 then h (t + 4) d else if w = 1 then h 26 d else if w = 2 then h (t + 6) d else if w = 3 then h 25 d else if w = 4 then h 27 d else if w = 5 then h 28 d else if w = 6 then h (t + 8) d else if w = 7 then rchC h t (h 25 d) (h (t + 4) d - h 26 d) else if w = 8 then (if 2 * h 26 d ≤ h (t + 4) d then 1 else 0) else -1) else -1
theorem qX9_director {l : Launch} {g h : zH} {Q : zQt} {t : Int} (hg : zGd g) (ht : t = 4 ∨ t = 14) (ht1 : g 1 1 = t) (hc : CB h t) {d x : Int} (hQ : Q (some (zi (dirC h t d x))) (SHL, g) h) : zC l mX9_director [zr 1, zi d, zi x] (SHL, g) h Q := by
  obtain ⟨ts0, ts1, ts2, ts3, ts4, ts5, ts6, ts7, ts8, ts9, tg4, tg5, tg6, tg7, tg8, tg9, tg10, tg11, tg12⟩ := houseF hg ht
  obtain ⟨⟨⟨m0, m1, m2, m3⟩, mp, md, mn⟩, ⟨nd, nc, nl⟩, ck, cs, cpp, cl, ct⟩ := id hc
  refine z_method kX9_director.1 rfl (Nat.le_of_ble_eq_true rfl) (fun hok hh => ?_)
  refine z_aload_n dX9_director_0 rfl (by omega) ?_
  refine y_geto (k' := 1) fl_X9_19 rfl dX9_director_1 sh_1 (by decide) ht1 ?_
  refine z_iload_n dX9_director_4 rfl ?_
  refine z_callV (T := mX4_hasDirector) (As := [_]) kX4_hasDirector ml_X9_115 ⟨by decide, by decide⟩ dX9_director_5 rfl rfl (Nat.le_of_ble_eq_true rfl) ts0 ⟨by decide, rfl⟩ (Nat.le_refl _) (Nat.le_refl _) (qX4_hasDirector hg ht (fun b5 => ?_) (fun b5 => ?_))
  ·
    refine z_if_ne (tgt := 13) dX9_director_8 (by decide) (fun _ => ?_) (fun q => False.elim (by omega))
    have f1 : (0 ≤ h 25 d ∧ h 25 d < h t 0) ∧ (0 ≤ h 26 d ∧ h 26 d ≤ 99) ∧ _ := nd d b5.1 b5.2
    refine z_iload_n dX9_director_13 rfl ?_
    refine y_ts (td := 185) [64, 74, 84, 94, 104, 114, 124, 134, 156] dX9_director_14 (by decide) (by decide) (by decide) (fun c14 => ?_) (fun j14 hj14 c14 => ?_)
    ·
      refine z_iconst dX9_director_185 ⟨by decide, by decide⟩ ?_
      refine z_ret (v := some (zi _)) dX9_director_186 trivial (Nat.add_zero _).symm (Nat.add_zero _).symm rfl ?_
      rw [dirC, if_pos b5, if_neg (by omega), if_neg (by omega), if_neg (by omega), if_neg (by omega), if_neg (by omega), if_neg (by omega), if_neg (by omega), if_neg (by omega), if_neg (by omega)] at hQ
      exact hQ
    ·
      rcases (show j14 = 0 ∨ j14 = 1 ∨ j14 = 2 ∨ j14 = 3 ∨ j14 = 4 ∨ j14 = 5 ∨ j14 = 6 ∨ j14 = 7 ∨ j14 = 8 by have h9 : j14 < 9 := hj14; omega) with rfl | rfl | rfl | rfl | rfl | rfl | rfl | rfl | rfl
      ·
        refine z_aload_n dX9_director_64 rfl (by omega) ?_
        refine y_geto (k' := 1) fl_X9_19 rfl dX9_director_65 sh_1 (by decide) ht1 ?_
        refine y_geta (k' := 7) fl_X9_118 rfl dX9_director_68 ts0 (by decide) tg7 ?_
        refine z_iload_n dX9_director_71 rfl ?_
        refine z_iaload dX9_director_72 ts4 (by omega) (by omega) rfl ?_
        refine z_ret (v := some (zi _)) dX9_director_73 trivial (Nat.add_zero _).symm (Nat.add_zero _).symm rfl ?_
        rw [dirC, if_pos b5, if_pos (by omega)] at hQ
        exact hQ
      ·
        refine z_aload_n dX9_director_74 rfl (by omega) ?_
        refine y_geto (k' := 3) fl_X9_29 rfl dX9_director_75 sh_1 (by decide) (gf_1_3 hg) ?_
        refine y_geta (k' := 1) fl_X9_121 rfl dX9_director_78 sh_24 (by decide) (gf_24_1 hg) ?_
        refine z_iload_n dX9_director_81 rfl ?_
        refine z_iaload dX9_director_82 sh_26 (by omega) (by omega) rfl ?_
        refine z_ret (v := some (zi _)) dX9_director_83 trivial (Nat.add_zero _).symm (Nat.add_zero _).symm rfl ?_
        rw [dirC, if_pos b5, if_neg (by omega), if_pos (by omega)] at hQ
        exact hQ
      ·
        refine z_aload_n dX9_director_84 rfl (by omega) ?_
        refine y_geto (k' := 1) fl_X9_19 rfl dX9_director_85 sh_1 (by decide) ht1 ?_
        refine y_geta (k' := 9) fl_X9_124 rfl dX9_director_88 ts0 (by decide) tg9 ?_
        refine z_iload_n dX9_director_91 rfl ?_
        refine z_iaload dX9_director_92 ts6 (by omega) (by omega) rfl ?_
        refine z_ret (v := some (zi _)) dX9_director_93 trivial (Nat.add_zero _).symm (Nat.add_zero _).symm rfl ?_
        rw [dirC, if_pos b5, if_neg (by omega), if_neg (by omega), if_pos (by omega)] at hQ
        exact hQ
      ·
        refine z_aload_n dX9_director_94 rfl (by omega) ?_
        refine y_geto (k' := 3) fl_X9_29 rfl dX9_director_95 sh_1 (by decide) (gf_1_3 hg) ?_
        refine y_geta (k' := 0) fl_X9_127 rfl dX9_director_98 sh_24 (by decide) (gf_24_0 hg) ?_
        refine z_iload_n dX9_director_101 rfl ?_
        refine z_iaload dX9_director_102 sh_25 (by omega) (by omega) rfl ?_
        refine z_ret (v := some (zi _)) dX9_director_103 trivial (Nat.add_zero _).symm (Nat.add_zero _).symm rfl ?_
        rw [dirC, if_pos b5, if_neg (by omega), if_neg (by omega), if_neg (by omega), if_pos (by omega)] at hQ
        exact hQ
      ·
        refine z_aload_n dX9_director_104 rfl (by omega) ?_
        refine y_geto (k' := 3) fl_X9_29 rfl dX9_director_105 sh_1 (by decide) (gf_1_3 hg) ?_
        refine y_geta (k' := 2) fl_X9_130 rfl dX9_director_108 sh_24 (by decide) (gf_24_2 hg) ?_
        refine z_iload_n dX9_director_111 rfl ?_
        refine z_iaload dX9_director_112 sh_27 (by omega) (by omega) rfl ?_
        refine z_ret (v := some (zi _)) dX9_director_113 trivial (Nat.add_zero _).symm (Nat.add_zero _).symm rfl ?_
        rw [dirC, if_pos b5, if_neg (by omega), if_neg (by omega), if_neg (by omega), if_neg (by omega), if_pos (by omega)] at hQ
        exact hQ
      ·
        refine z_aload_n dX9_director_114 rfl (by omega) ?_
        refine y_geto (k' := 3) fl_X9_29 rfl dX9_director_115 sh_1 (by decide) (gf_1_3 hg) ?_
        refine y_geta (k' := 3) fl_X9_133 rfl dX9_director_118 sh_24 (by decide) (gf_24_3 hg) ?_
        refine z_iload_n dX9_director_121 rfl ?_
        refine z_iaload dX9_director_122 sh_28 (by omega) (by omega) rfl ?_
        refine z_ret (v := some (zi _)) dX9_director_123 trivial (Nat.add_zero _).symm (Nat.add_zero _).symm rfl ?_
        rw [dirC, if_pos b5, if_neg (by omega), if_neg (by omega), if_neg (by omega), if_neg (by omega), if_neg (by omega), if_pos (by omega)] at hQ
        exact hQ
      ·
        refine z_aload_n dX9_director_124 rfl (by omega) ?_
        refine y_geto (k' := 1) fl_X9_19 rfl dX9_director_125 sh_1 (by decide) ht1 ?_
        refine y_geta (k' := 11) fl_X9_136 rfl dX9_director_128 ts0 (by decide) tg11 ?_
        refine z_iload_n dX9_director_131 rfl ?_
        refine z_iaload dX9_director_132 ts8 (by omega) (by omega) rfl ?_
        refine z_ret (v := some (zi _)) dX9_director_133 trivial (Nat.add_zero _).symm (Nat.add_zero _).symm rfl ?_
        rw [dirC, if_pos b5, if_neg (by omega), if_neg (by omega), if_neg (by omega), if_neg (by omega), if_neg (by omega), if_neg (by omega), if_pos (by omega)] at hQ
        exact hQ
      ·
        refine z_aload_n dX9_director_134 rfl (by omega) ?_
        refine y_geto (k' := 1) fl_X9_19 rfl dX9_director_135 sh_1 (by decide) ht1 ?_
        refine z_aload_n dX9_director_138 rfl (by omega) ?_
        refine y_geto (k' := 3) fl_X9_29 rfl dX9_director_139 sh_1 (by decide) (gf_1_3 hg) ?_
        refine y_geta (k' := 0) fl_X9_127 rfl dX9_director_142 sh_24 (by decide) (gf_24_0 hg) ?_
        refine z_iload_n dX9_director_145 rfl ?_
        refine z_iaload dX9_director_146 sh_25 (by omega) (by omega) rfl ?_
        refine z_aload_n dX9_director_147 rfl (by omega) ?_
        refine z_iload_n dX9_director_148 rfl ?_
        refine z_callV (T := mX9_strengthLeft) (As := [_]) kX9_strengthLeft ml_X9_139 ⟨by decide, by decide⟩ dX9_director_149 rfl rfl (Nat.le_of_ble_eq_true rfl) sh_1 ⟨by decide, rfl⟩ (Nat.le_refl _) (Nat.le_refl _) (qX9_strengthLeft hg ht ht1 hc (by omega) (by omega) ?_)
        refine z_callV (T := mX4_reachable) (As := [_, _]) kX4_reachable ml_X9_142 ⟨by decide, by decide⟩ dX9_director_152 rfl rfl (Nat.le_of_ble_eq_true rfl) ts0 ⟨by decide, rfl⟩ (Nat.le_refl _) (Nat.le_refl _) (qX4_reachable hg ht hc.1 (by omega) (by omega) ?_)
        refine z_ret (v := some (zi _)) dX9_director_155 trivial (Nat.add_zero _).symm (Nat.add_zero _).symm rfl ?_
        rw [dirC, if_pos b5, if_neg (by omega), if_neg (by omega), if_neg (by omega), if_neg (by omega), if_neg (by omega), if_neg (by omega), if_neg (by omega), if_pos (by omega)] at hQ
        exact hQ
      ·
        refine z_aload_n dX9_director_156 rfl (by omega) ?_
        refine y_geto (k' := 1) fl_X9_19 rfl dX9_director_157 sh_1 (by decide) ht1 ?_
        refine y_geta (k' := 7) fl_X9_118 rfl dX9_director_160 ts0 (by decide) tg7 ?_
        refine z_iload_n dX9_director_163 rfl ?_
        refine z_iaload dX9_director_164 ts4 (by omega) (by omega) rfl ?_
        refine z_iconst dX9_director_165 ⟨by decide, by decide⟩ ?_
        refine z_aload_n dX9_director_166 rfl (by omega) ?_
        refine y_geto (k' := 3) fl_X9_29 rfl dX9_director_167 sh_1 (by decide) (gf_1_3 hg) ?_
        refine y_geta (k' := 1) fl_X9_121 rfl dX9_director_170 sh_24 (by decide) (gf_24_1 hg) ?_
        refine z_iload_n dX9_director_173 rfl ?_
        refine z_iaload dX9_director_174 sh_26 (by omega) (by omega) rfl ?_
        refine y_imul dX9_director_175 (by omega) (by omega) ?_
        refine z_icmp_lt (tgt := 183) dX9_director_176 (by decide) (fun c176 => ?_) (fun c176 => ?_)
        ·
          refine z_iconst dX9_director_183 ⟨by decide, by decide⟩ ?_
          refine z_ret (v := some (zi _)) dX9_director_184 trivial (Nat.add_zero _).symm (Nat.add_zero _).symm rfl ?_
          rw [dirC, if_pos b5, if_neg (by omega), if_neg (by omega), if_neg (by omega), if_neg (by omega), if_neg (by omega), if_neg (by omega), if_neg (by omega), if_neg (by omega), if_pos (by omega)] at hQ
          first
            | (rw [if_pos (by omega)] at hQ; exact hQ)
            | (rw [if_neg (by omega)] at hQ; exact hQ)
        ·
          refine z_iconst dX9_director_179 ⟨by decide, by decide⟩ ?_
          refine z_goto (tgt := 184) dX9_director_180 (by decide) ?_
          refine z_ret (v := some (zi _)) dX9_director_184 trivial (Nat.add_zero _).symm (Nat.add_zero _).symm rfl ?_
          rw [dirC, if_pos b5, if_neg (by omega), if_neg (by omega), if_neg (by omega), if_neg (by omega), if_neg (by omega), if_neg (by omega), if_neg (by omega), if_neg (by omega), if_pos (by omega)] at hQ
          first
            | (rw [if_pos (by omega)] at hQ; exact hQ)
            | (rw [if_neg (by omega)] at hQ; exact hQ)
  ·
    refine z_if_ne (tgt := 13) dX9_director_8 (by decide) (fun q => False.elim (by omega)) (fun _ => ?_)
    refine z_iconst dX9_director_11 ⟨by decide, by decide⟩ ?_
    refine z_ret (v := some (zi _)) dX9_director_12 trivial (Nat.add_zero _).symm (Nat.add_zero _).symm rfl ?_
    rw [dirC, if_neg b5] at hQ
    exact hQ
def childC (h : zH) (t c w : Int) : Int := if 0 ≤ c ∧ c < h t 3 then (if w = 0 then h (t + 9) c else if w = 1 then h 29 c else -1) else -1
def countC (h : zH) (t w : Int) : Int := if w = 0 then h t 0 else if w = 1 then h t 1 else if w = 2 then h t 2 else if w = 3 then h t 3 else if w = 4 then h 93 2 else if w = 5 then h 30 1 else if w = 6 then h 2 1 else -1
theorem qX9_child {l : Launch} {g h : zH} {Q : zQt} {t : Int} (hg : zGd g) (ht : t = 4 ∨ t = 14) (ht1 : g 1 1 = t) (hc : CB h t) {c x : Int} (hQ : Q (some (zi (childC h t c x))) (SHL, g) h) : zC l mX9_child [zr 1, zi c, zi x] (SHL, g) h Q := by
  obtain ⟨ts0, ts1, ts2, ts3, ts4, ts5, ts6, ts7, ts8, ts9, tg4, tg5, tg6, tg7, tg8, tg9, tg10, tg11, tg12⟩ := houseF hg ht
  obtain ⟨⟨⟨m0, m1, m2, m3⟩, mp, md, mn⟩, ⟨nd, nc, nl⟩, ck, cs, cpp, cl, ct⟩ := id hc
  refine z_method kX9_child.1 rfl (Nat.le_of_ble_eq_true rfl) (fun hok hh => ?_)
  refine z_aload_n dX9_child_0 rfl (by omega) ?_
  refine y_geto (k' := 1) fl_X9_19 rfl dX9_child_1 sh_1 (by decide) ht1 ?_
  refine z_iload_n dX9_child_4 rfl ?_
  refine z_callV (T := mX4_hasChild) (As := [_]) kX4_hasChild ml_X9_146 ⟨by decide, by decide⟩ dX9_child_5 rfl rfl (Nat.le_of_ble_eq_true rfl) ts0 ⟨by decide, rfl⟩ (Nat.le_refl _) (Nat.le_refl _) (qX4_hasChild hg ht (fun b5 => ?_) (fun b5 => ?_))
  ·
    refine z_if_ne (tgt := 13) dX9_child_8 (by decide) (fun _ => ?_) (fun q => False.elim (by omega))
    refine z_iload_n dX9_child_13 rfl ?_
    by_cases s0 : x = 0
    ·
      refine z_lsw (tgt := 40) (off := 26) dX9_child_14 (by decide) (by rw [s0]; decide) (by decide) ?_
      refine z_aload_n dX9_child_40 rfl (by omega) ?_
      refine y_geto (k' := 1) fl_X9_19 rfl dX9_child_41 sh_1 (by decide) ht1 ?_
      refine y_geta (k' := 12) fl_X9_149 rfl dX9_child_44 ts0 (by decide) tg12 ?_
      refine z_iload_n dX9_child_47 rfl ?_
      refine z_iaload dX9_child_48 ts9 (by omega) (by omega) rfl ?_
      refine z_ret (v := some (zi _)) dX9_child_49 trivial (Nat.add_zero _).symm (Nat.add_zero _).symm rfl ?_
      rw [childC, if_pos b5, if_pos s0] at hQ
      exact hQ
    by_cases s1 : x = 1
    ·
      refine z_lsw (tgt := 50) (off := 36) dX9_child_14 (by decide) (by rw [s1]; decide) (by decide) ?_
      refine z_aload_n dX9_child_50 rfl (by omega) ?_
      refine y_geto (k' := 3) fl_X9_29 rfl dX9_child_51 sh_1 (by decide) (gf_1_3 hg) ?_
      refine y_geta (k' := 4) fl_X9_152 rfl dX9_child_54 sh_24 (by decide) (gf_24_4 hg) ?_
      refine z_iload_n dX9_child_57 rfl ?_
      refine z_iaload dX9_child_58 sh_29 (by omega) (by omega) rfl ?_
      refine z_ret (v := some (zi _)) dX9_child_59 trivial (Nat.add_zero _).symm (Nat.add_zero _).symm rfl ?_
      rw [childC, if_pos b5, if_neg s0, if_pos s1] at hQ
      exact hQ
    refine z_lsw (tgt := 60) (off := 46) dX9_child_14 (by decide) (by simp only [Op.lookupswitch.offset_cons, if_neg (Ne.symm s0), if_neg (Ne.symm s1)]; rfl) (by decide) ?_
    refine z_iconst dX9_child_60 ⟨by decide, by decide⟩ ?_
    refine z_ret (v := some (zi _)) dX9_child_61 trivial (Nat.add_zero _).symm (Nat.add_zero _).symm rfl ?_
    rw [childC, if_pos b5, if_neg s0, if_neg s1] at hQ
    exact hQ
  ·
    refine z_if_ne (tgt := 13) dX9_child_8 (by decide) (fun q => False.elim (by omega)) (fun _ => ?_)
    refine z_iconst dX9_child_11 ⟨by decide, by decide⟩ ?_
    refine z_ret (v := some (zi _)) dX9_child_12 trivial (Nat.add_zero _).symm (Nat.add_zero _).symm rfl ?_
    rw [childC, if_neg b5] at hQ
    exact hQ
theorem qX9_count {l : Launch} {g h : zH} {Q : zQt} {t : Int} (hg : zGd g) (ht : t = 4 ∨ t = 14) (ht1 : g 1 1 = t) (hc : CB h t) {x : Int} (hQ : Q (some (zi (countC h t x))) (SHL, g) h) : zC l mX9_count [zr 1, zi x] (SHL, g) h Q := by
  obtain ⟨ts0, ts1, ts2, ts3, ts4, ts5, ts6, ts7, ts8, ts9, tg4, tg5, tg6, tg7, tg8, tg9, tg10, tg11, tg12⟩ := houseF hg ht
  obtain ⟨⟨⟨m0, m1, m2, m3⟩, mp, md, mn⟩, ⟨nd, nc, nl⟩, ck, cs, cpp, cl, ct⟩ := id hc
  refine z_method kX9_count.1 rfl (Nat.le_of_ble_eq_true rfl) (fun hok hh => ?_)
  refine z_iload_n dX9_count_0 rfl ?_
  refine y_ts (td := 100) [44, 52, 60, 68, 76, 84, 92] dX9_count_1 (by decide) (by decide) (by decide) (fun c1 => ?_) (fun j1 hj1 c1 => ?_)
  ·
    refine z_iconst dX9_count_100 ⟨by decide, by decide⟩ ?_
    refine z_ret (v := some (zi _)) dX9_count_101 trivial (Nat.add_zero _).symm (Nat.add_zero _).symm rfl ?_
    first
      | (rw [countC, if_pos (by omega)] at hQ; exact hQ)
      | (rw [countC, if_neg (by omega), if_pos (by omega)] at hQ; exact hQ)
      | (rw [countC, if_neg (by omega), if_neg (by omega), if_pos (by omega)] at hQ; exact hQ)
      | (rw [countC, if_neg (by omega), if_neg (by omega), if_neg (by omega), if_pos (by omega)] at hQ; exact hQ)
      | (rw [countC, if_neg (by omega), if_neg (by omega), if_neg (by omega), if_neg (by omega), if_pos (by omega)] at hQ; exact hQ)
      | (rw [countC, if_neg (by omega), if_neg (by omega), if_neg (by omega), if_neg (by omega), if_neg (by omega), if_pos (by omega)] at hQ; exact hQ)
      | (rw [countC, if_neg (by omega), if_neg (by omega), if_neg (by omega), if_neg (by omega), if_neg (by omega), if_neg (by omega), if_pos (by omega)] at hQ; exact hQ)
      | (rw [countC, if_neg (by omega), if_neg (by omega), if_neg (by omega), if_neg (by omega), if_neg (by omega), if_neg (by omega), if_neg (by omega)] at hQ; exact hQ)
  ·
    rcases (show j1 = 0 ∨ j1 = 1 ∨ j1 = 2 ∨ j1 = 3 ∨ j1 = 4 ∨ j1 = 5 ∨ j1 = 6 by have h9 : j1 < 7 := hj1; omega) with rfl | rfl | rfl | rfl | rfl | rfl | rfl
    ·
      refine z_aload_n dX9_count_44 rfl (by omega) ?_
      refine y_geto (k' := 1) fl_X9_19 rfl dX9_count_45 sh_1 (by decide) ht1 ?_
      refine y_geti (k' := 0) fl_X9_302 rfl dX9_count_48 ts0 (by decide) rfl ?_
      refine z_ret (v := some (zi _)) dX9_count_51 trivial (Nat.add_zero _).symm (Nat.add_zero _).symm rfl ?_
      first
        | (rw [countC, if_pos (by omega)] at hQ; exact hQ)
        | (rw [countC, if_neg (by omega), if_pos (by omega)] at hQ; exact hQ)
        | (rw [countC, if_neg (by omega), if_neg (by omega), if_pos (by omega)] at hQ; exact hQ)
        | (rw [countC, if_neg (by omega), if_neg (by omega), if_neg (by omega), if_pos (by omega)] at hQ; exact hQ)
        | (rw [countC, if_neg (by omega), if_neg (by omega), if_neg (by omega), if_neg (by omega), if_pos (by omega)] at hQ; exact hQ)
        | (rw [countC, if_neg (by omega), if_neg (by omega), if_neg (by omega), if_neg (by omega), if_neg (by omega), if_pos (by omega)] at hQ; exact hQ)
        | (rw [countC, if_neg (by omega), if_neg (by omega), if_neg (by omega), if_neg (by omega), if_neg (by omega), if_neg (by omega), if_pos (by omega)] at hQ; exact hQ)
        | (rw [countC, if_neg (by omega), if_neg (by omega), if_neg (by omega), if_neg (by omega), if_neg (by omega), if_neg (by omega), if_neg (by omega)] at hQ; exact hQ)
    ·
      refine z_aload_n dX9_count_52 rfl (by omega) ?_
      refine y_geto (k' := 1) fl_X9_19 rfl dX9_count_53 sh_1 (by decide) ht1 ?_
      refine y_geti (k' := 1) fl_X9_273 rfl dX9_count_56 ts0 (by decide) rfl ?_
      refine z_ret (v := some (zi _)) dX9_count_59 trivial (Nat.add_zero _).symm (Nat.add_zero _).symm rfl ?_
      first
        | (rw [countC, if_pos (by omega)] at hQ; exact hQ)
        | (rw [countC, if_neg (by omega), if_pos (by omega)] at hQ; exact hQ)
        | (rw [countC, if_neg (by omega), if_neg (by omega), if_pos (by omega)] at hQ; exact hQ)
        | (rw [countC, if_neg (by omega), if_neg (by omega), if_neg (by omega), if_pos (by omega)] at hQ; exact hQ)
        | (rw [countC, if_neg (by omega), if_neg (by omega), if_neg (by omega), if_neg (by omega), if_pos (by omega)] at hQ; exact hQ)
        | (rw [countC, if_neg (by omega), if_neg (by omega), if_neg (by omega), if_neg (by omega), if_neg (by omega), if_pos (by omega)] at hQ; exact hQ)
        | (rw [countC, if_neg (by omega), if_neg (by omega), if_neg (by omega), if_neg (by omega), if_neg (by omega), if_neg (by omega), if_pos (by omega)] at hQ; exact hQ)
        | (rw [countC, if_neg (by omega), if_neg (by omega), if_neg (by omega), if_neg (by omega), if_neg (by omega), if_neg (by omega), if_neg (by omega)] at hQ; exact hQ)
    ·
      refine z_aload_n dX9_count_60 rfl (by omega) ?_
      refine y_geto (k' := 1) fl_X9_19 rfl dX9_count_61 sh_1 (by decide) ht1 ?_
      refine y_geti (k' := 2) fl_X9_187 rfl dX9_count_64 ts0 (by decide) rfl ?_
      refine z_ret (v := some (zi _)) dX9_count_67 trivial (Nat.add_zero _).symm (Nat.add_zero _).symm rfl ?_
      first
        | (rw [countC, if_pos (by omega)] at hQ; exact hQ)
        | (rw [countC, if_neg (by omega), if_pos (by omega)] at hQ; exact hQ)
        | (rw [countC, if_neg (by omega), if_neg (by omega), if_pos (by omega)] at hQ; exact hQ)
        | (rw [countC, if_neg (by omega), if_neg (by omega), if_neg (by omega), if_pos (by omega)] at hQ; exact hQ)
        | (rw [countC, if_neg (by omega), if_neg (by omega), if_neg (by omega), if_neg (by omega), if_pos (by omega)] at hQ; exact hQ)
        | (rw [countC, if_neg (by omega), if_neg (by omega), if_neg (by omega), if_neg (by omega), if_neg (by omega), if_pos (by omega)] at hQ; exact hQ)
        | (rw [countC, if_neg (by omega), if_neg (by omega), if_neg (by omega), if_neg (by omega), if_neg (by omega), if_neg (by omega), if_pos (by omega)] at hQ; exact hQ)
        | (rw [countC, if_neg (by omega), if_neg (by omega), if_neg (by omega), if_neg (by omega), if_neg (by omega), if_neg (by omega), if_neg (by omega)] at hQ; exact hQ)
    ·
      refine z_aload_n dX9_count_68 rfl (by omega) ?_
      refine y_geto (k' := 1) fl_X9_19 rfl dX9_count_69 sh_1 (by decide) ht1 ?_
      refine y_geti (k' := 3) fl_X9_238 rfl dX9_count_72 ts0 (by decide) rfl ?_
      refine z_ret (v := some (zi _)) dX9_count_75 trivial (Nat.add_zero _).symm (Nat.add_zero _).symm rfl ?_
      first
        | (rw [countC, if_pos (by omega)] at hQ; exact hQ)
        | (rw [countC, if_neg (by omega), if_pos (by omega)] at hQ; exact hQ)
        | (rw [countC, if_neg (by omega), if_neg (by omega), if_pos (by omega)] at hQ; exact hQ)
        | (rw [countC, if_neg (by omega), if_neg (by omega), if_neg (by omega), if_pos (by omega)] at hQ; exact hQ)
        | (rw [countC, if_neg (by omega), if_neg (by omega), if_neg (by omega), if_neg (by omega), if_pos (by omega)] at hQ; exact hQ)
        | (rw [countC, if_neg (by omega), if_neg (by omega), if_neg (by omega), if_neg (by omega), if_neg (by omega), if_pos (by omega)] at hQ; exact hQ)
        | (rw [countC, if_neg (by omega), if_neg (by omega), if_neg (by omega), if_neg (by omega), if_neg (by omega), if_neg (by omega), if_pos (by omega)] at hQ; exact hQ)
        | (rw [countC, if_neg (by omega), if_neg (by omega), if_neg (by omega), if_neg (by omega), if_neg (by omega), if_neg (by omega), if_neg (by omega)] at hQ; exact hQ)
    ·
      refine z_aload_n dX9_count_76 rfl (by omega) ?_
      refine y_geto (k' := 6) fl_X9_49 rfl dX9_count_77 sh_1 (by decide) (gf_1_6 hg) ?_
      refine y_geti (k' := 2) fl_X9_91 rfl dX9_count_80 sh_93 (by decide) rfl ?_
      refine z_ret (v := some (zi _)) dX9_count_83 trivial (Nat.add_zero _).symm (Nat.add_zero _).symm rfl ?_
      first
        | (rw [countC, if_pos (by omega)] at hQ; exact hQ)
        | (rw [countC, if_neg (by omega), if_pos (by omega)] at hQ; exact hQ)
        | (rw [countC, if_neg (by omega), if_neg (by omega), if_pos (by omega)] at hQ; exact hQ)
        | (rw [countC, if_neg (by omega), if_neg (by omega), if_neg (by omega), if_pos (by omega)] at hQ; exact hQ)
        | (rw [countC, if_neg (by omega), if_neg (by omega), if_neg (by omega), if_neg (by omega), if_pos (by omega)] at hQ; exact hQ)
        | (rw [countC, if_neg (by omega), if_neg (by omega), if_neg (by omega), if_neg (by omega), if_neg (by omega), if_pos (by omega)] at hQ; exact hQ)
        | (rw [countC, if_neg (by omega), if_neg (by omega), if_neg (by omega), if_neg (by omega), if_neg (by omega), if_neg (by omega), if_pos (by omega)] at hQ; exact hQ)
        | (rw [countC, if_neg (by omega), if_neg (by omega), if_neg (by omega), if_neg (by omega), if_neg (by omega), if_neg (by omega), if_neg (by omega)] at hQ; exact hQ)
    ·
      refine z_aload_n dX9_count_84 rfl (by omega) ?_
      refine y_geto (k' := 4) fl_X9_36 rfl dX9_count_85 sh_1 (by decide) (gf_1_4 hg) ?_
      refine y_geti (k' := 1) fl_X9_88 rfl dX9_count_88 sh_30 (by decide) rfl ?_
      refine z_ret (v := some (zi _)) dX9_count_91 trivial (Nat.add_zero _).symm (Nat.add_zero _).symm rfl ?_
      first
        | (rw [countC, if_pos (by omega)] at hQ; exact hQ)
        | (rw [countC, if_neg (by omega), if_pos (by omega)] at hQ; exact hQ)
        | (rw [countC, if_neg (by omega), if_neg (by omega), if_pos (by omega)] at hQ; exact hQ)
        | (rw [countC, if_neg (by omega), if_neg (by omega), if_neg (by omega), if_pos (by omega)] at hQ; exact hQ)
        | (rw [countC, if_neg (by omega), if_neg (by omega), if_neg (by omega), if_neg (by omega), if_pos (by omega)] at hQ; exact hQ)
        | (rw [countC, if_neg (by omega), if_neg (by omega), if_neg (by omega), if_neg (by omega), if_neg (by omega), if_pos (by omega)] at hQ; exact hQ)
        | (rw [countC, if_neg (by omega), if_neg (by omega), if_neg (by omega), if_neg (by omega), if_neg (by omega), if_neg (by omega), if_pos (by omega)] at hQ; exact hQ)
        | (rw [countC, if_neg (by omega), if_neg (by omega), if_neg (by omega), if_neg (by omega), if_neg (by omega), if_neg (by omega), if_neg (by omega)] at hQ; exact hQ)
    ·
      refine z_aload_n dX9_count_92 rfl (by omega) ?_
      refine y_geto (k' := 0) fl_X9_10 rfl dX9_count_93 sh_1 (by decide) (gf_1_0 hg) ?_
      refine y_geti (k' := 1) fl_X9_72 rfl dX9_count_96 sh_2 (by decide) rfl ?_
      refine z_ret (v := some (zi _)) dX9_count_99 trivial (Nat.add_zero _).symm (Nat.add_zero _).symm rfl ?_
      first
        | (rw [countC, if_pos (by omega)] at hQ; exact hQ)
        | (rw [countC, if_neg (by omega), if_pos (by omega)] at hQ; exact hQ)
        | (rw [countC, if_neg (by omega), if_neg (by omega), if_pos (by omega)] at hQ; exact hQ)
        | (rw [countC, if_neg (by omega), if_neg (by omega), if_neg (by omega), if_pos (by omega)] at hQ; exact hQ)
        | (rw [countC, if_neg (by omega), if_neg (by omega), if_neg (by omega), if_neg (by omega), if_pos (by omega)] at hQ; exact hQ)
        | (rw [countC, if_neg (by omega), if_neg (by omega), if_neg (by omega), if_neg (by omega), if_neg (by omega), if_pos (by omega)] at hQ; exact hQ)
        | (rw [countC, if_neg (by omega), if_neg (by omega), if_neg (by omega), if_neg (by omega), if_neg (by omega), if_neg (by omega), if_pos (by omega)] at hQ; exact hQ)
        | (rw [countC, if_neg (by omega), if_neg (by omega), if_neg (by omega), if_neg (by omega), if_neg (by omega), if_neg (by omega), if_neg (by omega)] at hQ; exact hQ)
theorem qX9_trace {l : Launch} {g h : zH} {Q : zQt} {t : Int} (hg : zGd g) (ht : t = 4 ∨ t = 14) (ht1 : g 1 1 = t) (hc : CB h t) (hQ : Q (some (zl (h 1 9))) (SHL, g) h) : zC l mX9_trace [zr 1] (SHL, g) h Q := by
  obtain ⟨ts0, ts1, ts2, ts3, ts4, ts5, ts6, ts7, ts8, ts9, tg4, tg5, tg6, tg7, tg8, tg9, tg10, tg11, tg12⟩ := houseF hg ht
  obtain ⟨⟨⟨m0, m1, m2, m3⟩, mp, md, mn⟩, ⟨nd, nc, nl⟩, ck, cs, cpp, cl, ct⟩ := id hc
  refine z_method kX9_trace.1 rfl (Nat.le_of_ble_eq_true rfl) (fun hok hh => ?_)
  refine z_aload_n dX9_trace_0 rfl (by omega) ?_
  refine y_getl (k' := 9) fl_X9_305 rfl dX9_trace_1 sh_1 (by decide) rfl ?_
  refine z_ret (v := some (zl _)) dX9_trace_4 trivial (Nat.add_zero _).symm (Nat.add_zero _).symm rfl ?_
  exact hQ
def spreadC (h : zH) (t s : Int) : Int := if 0 ≤ s ∧ s ≤ pw (h t 2) - 1 then sprC h t s else -1
theorem qX9_spread {l : Launch} {g h : zH} {Q : zQt} {t : Int} (hg : zGd g) (ht : t = 4 ∨ t = 14) (ht1 : g 1 1 = t) (hc : CB h t) {x : Int} (hQ : Q (some (zi (spreadC h t x))) (SHL, g) h) : zC l mX9_spread [zr 1, zi x] (SHL, g) h Q := by
  obtain ⟨ts0, ts1, ts2, ts3, ts4, ts5, ts6, ts7, ts8, ts9, tg4, tg5, tg6, tg7, tg8, tg9, tg10, tg11, tg12⟩ := houseF hg ht
  obtain ⟨⟨⟨m0, m1, m2, m3⟩, mp, md, mn⟩, ⟨nd, nc, nl⟩, ck, cs, cpp, cl, ct⟩ := id hc
  refine z_method kX9_spread.1 rfl (Nat.le_of_ble_eq_true rfl) (fun hok hh => ?_)
  refine z_iload_n dX9_spread_0 rfl ?_
  refine z_if_lt (tgt := 15) dX9_spread_1 (by decide) (fun c1 => ?_) (fun c1 => ?_)
  ·
    refine z_iconst dX9_spread_15 ⟨by decide, by decide⟩ ?_
    refine z_ret (v := some (zi _)) dX9_spread_16 trivial (Nat.add_zero _).symm (Nat.add_zero _).symm rfl ?_
    rw [spreadC, if_neg (by omega)] at hQ
    exact hQ
  ·
    refine z_iload_n dX9_spread_4 rfl ?_
    refine z_aload_n dX9_spread_5 rfl (by omega) ?_
    refine y_geto (k' := 1) fl_X9_19 rfl dX9_spread_6 sh_1 (by decide) ht1 ?_
    refine z_callV (T := mX4_allDirectors) (As := []) kX4_allDirectors ml_X9_225 ⟨by decide, by decide⟩ dX9_spread_9 rfl rfl (Nat.le_of_ble_eq_true rfl) ts0 ⟨by decide, rfl⟩ (Nat.le_refl _) (Nat.le_refl _) (qX4_allDirectors hg ht m2 ?_)
    refine z_icmp_le (tgt := 17) dX9_spread_12 (by decide) (fun c12 => ?_) (fun c12 => ?_)
    ·
      refine z_aload_n dX9_spread_17 rfl (by omega) ?_
      refine y_geto (k' := 1) fl_X9_19 rfl dX9_spread_18 sh_1 (by decide) ht1 ?_
      refine z_iload_n dX9_spread_21 rfl ?_
      refine z_callV (T := mX4_laughFrom) (As := [_]) kX4_laughFrom ml_X9_184 ⟨by decide, by decide⟩ dX9_spread_22 rfl rfl (Nat.le_of_ble_eq_true rfl) ts0 ⟨by decide, rfl⟩ (Nat.le_refl _) (Nat.le_refl _) (qX4_laughFrom hg ht hc.1 (by omega) (by omega) ?_)
      refine z_ret (v := some (zi _)) dX9_spread_25 trivial (Nat.add_zero _).symm (Nat.add_zero _).symm rfl ?_
      rw [spreadC, if_pos (by omega)] at hQ
      exact hQ
    ·
      refine z_iconst dX9_spread_15 ⟨by decide, by decide⟩ ?_
      refine z_ret (v := some (zi _)) dX9_spread_16 trivial (Nat.add_zero _).symm (Nat.add_zero _).symm rfl ?_
      rw [spreadC, if_neg (by omega)] at hQ
      exact hQ
