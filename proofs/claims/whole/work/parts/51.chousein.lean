/-! The class: a house is told. -/
theorem prs_r {X : Int → Int} {L : Int} : ∀ (n : Nat) (F : zH) (i a : Int), FO F → 0 ≤ i → 0 ≤ a → a ≤ L → (i = 0 → F 0 1 = 0 ∧ F 0 2 = 0) → ((prs X L n F i a).1 = -9 → FO (prs X L n F i a).2.1 ∧ i ≤ (prs X L n F i a).2.2) ∧ (¬ (prs X L n F i a).1 = -9 → 0 ≤ (prs X L n F i a).1 ∧ (prs X L n F i a).1 ≤ L) := by
  intro n
  induction n with
  | zero => intro F i a hF i0 a0 a1 hi; exact ⟨fun _ => ⟨hF, Int.le_refl _⟩, fun z => absurd rfl z⟩
  | succ n ih =>
    intro F i a hF i0 a0 a1 hi
    have u1 := ks_r (X := X) a1
    have w1 := ke_r (X := X) a1
    have io := IO_m (X := X) (c := kc X L a) hF (show 0 ≤ ke X L a by omega) w1.2 (show 0 ≤ ks X L a by omega) w1.1 i0 hi
    have e0 : prs X L (n + 1) F i a = if kc X L a = -1 then (-9, F, i) else if (itm F X L (ke X L a) (ks X L a) i (kc X L a)).1 = -9 then prs X L n (itm F X L (ke X L a) (ks X L a) i (kc X L a)).2.1 (i + 1) (itm F X L (ke X L a) (ks X L a) i (kc X L a)).2.2 else ((itm F X L (ke X L a) (ks X L a) i (kc X L a)).1, F, i) := rfl
    rw [e0]
    by_cases z : kc X L a = -1
    · rw [if_pos z]
      exact ⟨fun _ => ⟨hF, Int.le_refl _⟩, fun z => absurd rfl z⟩
    · rw [if_neg z]
      by_cases y : (itm F X L (ke X L a) (ks X L a) i (kc X L a)).1 = -9
      · rw [if_pos y]
        have q := io.1 y
        have k := ih _ (i + 1) _ q.1 (by omega) (by omega) q.2.2 (by omega)
        exact ⟨fun x => ⟨(k.1 x).1, by have := (k.1 x).2; omega⟩, k.2⟩
      · rw [if_neg y]
        exact ⟨fun x => absurd x y, fun _ => io.2 y⟩
def hsC (x : zH) (s : Int) : zH := zup (zup (zup (zup (bgH (zup x 2 1 0) s) 30 1 0) 93 2 0) 102 2 0) 171 2 0
theorem zGd_1 {g : zH} (hg : zGd g) {v u : Int} : zGd (zup (zup g 1 1 v) 1 2 u) := fun q hq => by
  have z := (STAT_31 q hq).2
  rw [zup_ne (by omega), zup_ne (by omega)]
  exact hg q hq
theorem qX9_house {l : Launch} {g h : zH} {Q : zQt} {t : Int} (hg : zGd g) (ht : t = 4 ∨ t = 14) (ht1 : g 1 1 = t)  {s : Int} (hs : s = 4 ∨ s = 14) (ht2 : g 1 2 = s) (hL : 0 ≤ h 2 1 ∧ h 2 1 ≤ 150) (hT : ∀ i, 0 ≤ i → i < h 2 1 → 0 ≤ h 3 i ∧ h 3 i ≤ 255) (h1 : (prs (h 3) (h 2 1) ((h 2 1).toNat + 1) (tn (fun i b => h (s + i) b)) 0 0).1 = -9 → ∀ a p k v, Q (some (zi (prs (h 3) (h 2 1) ((h 2 1).toNat + 1) (tn (fun i b => h (s + i) b)) 0 0).2.2)) (SHL, zup (zup g 1 1 s) 1 2 t) (hsC (PH h s (prs (h 3) (h 2 1) ((h 2 1).toNat + 1) (tn (fun i b => h (s + i) b)) 0 0).2.1 a p k v 0) s)) (h0 : ¬ (prs (h 3) (h 2 1) ((h 2 1).toNat + 1) (tn (fun i b => h (s + i) b)) 0 0).1 = -9 → ∀ F a p k v, Q (some (zi (-10 - (prs (h 3) (h 2 1) ((h 2 1).toNat + 1) (tn (fun i b => h (s + i) b)) 0 0).1))) (SHL, g) (PH h s F a p k v 1)) : zC l mX9_house [zr 1] (SHL, g) h Q := by
  obtain ⟨ts0, ts1, ts2, ts3, ts4, ts5, ts6, ts7, ts8, ts9, tg4, tg5, tg6, tg7, tg8, tg9, tg10, tg11, tg12⟩ := houseF hg ht
  refine z_method kX9_house.1 rfl (Nat.le_of_ble_eq_true rfl) (fun hok hh => ?_)
  have pr := prs_r (X := h 3) (L := h 2 1) ((h 2 1).toNat + 1) (tn (fun i b => h (s + i) b)) 0 0 (FO_tn _) (by omega) (by omega) hL.1 (fun _ => ⟨by unfold tn; rw [zup_ne (by omega), zup_ne (by omega), zup_same], by unfold tn; rw [zup_ne (by omega), zup_same]⟩)
  refine z_aload_n dX9_house_0 rfl (by omega) ?_
  refine y_geto (k' := 0) fl_X9_10 rfl dX9_house_1 sh_1 (by decide) (gf_1_0 hg) ?_
  refine z_aload_n dX9_house_4 rfl (by omega) ?_
  refine y_geto (k' := 2) fl_X9_23 rfl dX9_house_5 sh_1 (by decide) ht2 ?_
  refine z_callV (T := mX7_readInto) (As := [_]) kX7_readInto ml_X9_80 ⟨by decide, by decide⟩ dX9_house_8 rfl rfl (Nat.le_of_ble_eq_true rfl) sh_2 ⟨by decide, rfl⟩ (Nat.le_refl _) (Nat.le_refl _) (qX7_readInto hg hs hL hT (fun e a9 p9 k9 v9 => ?_) (fun e F9 a9 p9 k9 v9 => ?_))
  ·
    have pr1 := (pr.1 e).2
    refine z_istore_n dX9_house_11 (by decide) rfl lss_4_1 ?_
    refine z_iload_n dX9_house_12 rfl ?_
    refine z_if_ge (tgt := 18) dX9_house_13 (by decide) (fun _ => ?_) (fun q => False.elim (by omega))
    refine z_aload_n dX9_house_18 rfl (by omega) ?_
    refine y_geto (k' := 1) fl_X9_19 rfl dX9_house_19 sh_1 (by decide) ht1 ?_
    refine z_astore_n dX9_house_22 (by decide) rfl (by omega) lss_4_2 ?_
    refine z_aload_n dX9_house_23 rfl (by omega) ?_
    refine z_aload_n dX9_house_24 rfl (by omega) ?_
    refine y_geto (k' := 2) fl_X9_23 rfl dX9_house_25 sh_1 (by decide) ht2 ?_
    refine y_puto (k' := 1) fl_X9_19 rfl dX9_house_28 sh_1 (by decide)  ?_
    show zW zX0 l mX9_house _ _ Q _ _ _ (SHL, zup g 1 1 s) _
    refine z_aload_n dX9_house_31 rfl (by omega) ?_
    refine z_aload_n dX9_house_32 rfl (by omega) ?_
    refine y_puto (k' := 2) fl_X9_23 rfl dX9_house_33 sh_1 (by decide)  ?_
    show zW zX0 l mX9_house _ _ Q _ _ _ (SHL, zup (zup g 1 1 s) 1 2 t) _
    have hg2 : zGd (zup (zup g 1 1 s) 1 2 t) := zGd_1 hg
    have hg1 : zup (zup g 1 1 s) 1 2 t 1 1 = s := by rw [zup_ne (by omega), zup_same]
    refine z_aload_n dX9_house_36 rfl (by omega) ?_
    refine y_geto (k' := 0) fl_X9_10 rfl dX9_house_37 sh_1 (by decide) (gf_1_0 hg2) ?_
    refine z_callV (T := mX7_drop) (As := []) kX7_drop ml_X9_76 ⟨by decide, by decide⟩ dX9_house_40 rfl rfl (Nat.le_of_ble_eq_true rfl) sh_2 ⟨by decide, rfl⟩ (Nat.le_refl _) (Nat.le_refl _) (qX7_drop hg2 ?_)
    refine z_pop dX9_house_43 rfl ?_
    refine z_aload_n dX9_house_44 rfl (by omega) ?_
    refine y_geto (k' := 3) fl_X9_29 rfl dX9_house_45 sh_1 (by decide) (gf_1_3 hg2) ?_
    refine z_aload_n dX9_house_48 rfl (by omega) ?_
    refine y_geto (k' := 1) fl_X9_19 rfl dX9_house_49 sh_1 (by decide) hg1 ?_
    refine z_callV (T := mX6_begin) (As := [_]) kX6_begin ml_X9_84 ⟨by decide, by decide⟩ dX9_house_52 rfl rfl (Nat.le_of_ble_eq_true rfl) sh_24 ⟨by decide, rfl⟩ (Nat.le_refl _) (Nat.le_refl _) (qX6_begin hg2 hs ?_)
    refine z_aload_n dX9_house_55 rfl (by omega) ?_
    refine y_geto (k' := 4) fl_X9_36 rfl dX9_house_56 sh_1 (by decide) (gf_1_4 hg2) ?_
    refine z_iconst dX9_house_59 ⟨by decide, by decide⟩ ?_
    refine y_puti (k' := 1) fl_X9_88 rfl dX9_house_60 sh_30 (by decide)  ?_
    refine z_aload_n dX9_house_63 rfl (by omega) ?_
    refine y_geto (k' := 6) fl_X9_49 rfl dX9_house_64 sh_1 (by decide) (gf_1_6 hg2) ?_
    refine z_iconst dX9_house_67 ⟨by decide, by decide⟩ ?_
    refine y_puti (k' := 2) fl_X9_91 rfl dX9_house_68 sh_93 (by decide)  ?_
    refine z_iconst dX9_house_71 ⟨by decide, by decide⟩ ?_
    refine z_istore_n dX9_house_72 (by decide) rfl lss_4_3 ?_
    refine z_iload_n dX9_house_73 rfl ?_
    refine z_iconst dX9_house_74 ⟨by decide, by decide⟩ ?_
    refine z_icmp_ge (tgt := 94) dX9_house_75 (by decide) (fun q => False.elim (by omega)) (fun _ => ?_)
    refine z_aload_n dX9_house_78 rfl (by omega) ?_
    refine y_geta (k' := 5) fl_X9_42 rfl dX9_house_79 sh_1 (by decide) (gf_1_5 hg2) ?_
    refine z_iload_n dX9_house_82 rfl ?_
    refine z_maload dX9_house_83 sh_92 (by omega) (by omega) (gf_92_0 hg2) ?_
    refine z_iconst dX9_house_84 ⟨by decide, by decide⟩ ?_
    refine y_putz (k' := 2) fl_X9_94 rfl dX9_house_85 sh_102 (by decide) (by omega) ?_
    refine y_iinc dX9_house_88 (by decide) rfl rfl (by omega) (by omega) lss_4_3 ?_
    refine z_goto (tgt := 73) dX9_house_91 (by decide) ?_
    refine z_iload_n dX9_house_73 rfl ?_
    refine z_iconst dX9_house_74 ⟨by decide, by decide⟩ ?_
    refine z_icmp_ge (tgt := 94) dX9_house_75 (by decide) (fun q => False.elim (by omega)) (fun _ => ?_)
    refine z_aload_n dX9_house_78 rfl (by omega) ?_
    refine y_geta (k' := 5) fl_X9_42 rfl dX9_house_79 sh_1 (by decide) (gf_1_5 hg2) ?_
    refine z_iload_n dX9_house_82 rfl ?_
    refine z_maload dX9_house_83 sh_92 (by omega) (by omega) (gf_92_1 hg2) ?_
    refine z_iconst dX9_house_84 ⟨by decide, by decide⟩ ?_
    refine y_putz (k' := 2) fl_X9_94 rfl dX9_house_85 sh_171 (by decide) (by omega) ?_
    refine y_iinc dX9_house_88 (by decide) rfl rfl (by omega) (by omega) lss_4_3 ?_
    refine z_goto (tgt := 73) dX9_house_91 (by decide) ?_
    refine z_iload_n dX9_house_73 rfl ?_
    refine z_iconst dX9_house_74 ⟨by decide, by decide⟩ ?_
    refine z_icmp_ge (tgt := 94) dX9_house_75 (by decide) (fun _ => ?_) (fun q => False.elim (by omega))
    refine z_iload_n dX9_house_94 rfl ?_
    refine z_ret (v := some (zi _)) dX9_house_95 trivial (Nat.add_zero _).symm (Nat.add_zero _).symm rfl ?_
    exact h1 e _ _ _ _
  ·
    have pr2 := pr.2 e
    refine z_istore_n dX9_house_11 (by decide) rfl lss_4_1 ?_
    refine z_iload_n dX9_house_12 rfl ?_
    refine z_if_ge (tgt := 18) dX9_house_13 (by decide) (fun q => False.elim (by omega)) (fun _ => ?_)
    refine z_iload_n dX9_house_16 rfl ?_
    refine z_ret (v := some (zi _)) dX9_house_17 trivial (Nat.add_zero _).symm (Nat.add_zero _).symm rfl ?_
    exact h0 e _ _ _ _ _
