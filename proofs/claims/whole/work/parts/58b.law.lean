/-! The law's calls. -/
theorem eq_askl {g c m : zH} {t : Int} (R : Rel g c m t) (hm : MB m) : (askC c t (whoC c t) (c t 1).toNat).1 = (askB m (whoS m) (m 240 1).toNat).1 := by
  have m1 := hm.1.2.1
  have r := whoS_r hm.1.2.2.1
  rw [eq_who R hm, R.1.1.2.1, eq_ask R hm r.1 r.2 _ (by omega)]
theorem qX9_back_out {l : Launch} {g h : zH} {Q : zQt} {t : Int} (hg : zGd g) (ht : t = 4 ∨ t = 14) (ht1 : g 1 1 = t) (hc : CB h t) {j : Int} (hj : ¬ (0 ≤ j ∧ j ≤ 1)) (hQ : Q (some (zi (-1))) (SHL, g) h) : zC l mX9_back [zr 1, zi j] (SHL, g) h Q := by
  obtain ⟨ts0, ts1, ts2, ts3, ts4, ts5, ts6, ts7, ts8, ts9, tg4, tg5, tg6, tg7, tg8, tg9, tg10, tg11, tg12⟩ := houseF hg ht
  obtain ⟨⟨⟨m0, m1, m2, m3⟩, mp, md, mn⟩, ⟨nd, nc, nl⟩, ck, cs, cpp, cl, ct⟩ := id hc
  refine z_method kX9_back.1 rfl (Nat.le_of_ble_eq_true rfl) (fun hok hh => ?_)
  refine z_iload_n dX9_back_0 rfl ?_
  refine z_if_lt (tgt := 9) dX9_back_1 (by decide) (fun c1 => ?_) (fun c1 => ?_)
  ·
    refine z_iconst dX9_back_9 ⟨by decide, by decide⟩ ?_
    refine z_ret (v := some (zi _)) dX9_back_10 trivial (Nat.add_zero _).symm (Nat.add_zero _).symm rfl ?_
    exact hQ
  ·
    refine z_iload_n dX9_back_4 rfl ?_
    refine z_iconst dX9_back_5 ⟨by decide, by decide⟩ ?_
    refine z_icmp_lt (tgt := 11) dX9_back_6 (by decide) (fun c6 => ?_) (fun c6 => ?_)
    ·
      omega
    ·
      refine z_iconst dX9_back_9 ⟨by decide, by decide⟩ ?_
      refine z_ret (v := some (zi _)) dX9_back_10 trivial (Nat.add_zero _).symm (Nat.add_zero _).symm rfl ?_
      exact hQ
theorem qX9_back2 {l : Launch} {g h : zH} {Q : zQt} {t : Int} (hg : zGd g) (ht : t = 4 ∨ t = 14) (ht1 : g 1 1 = t) (hc : CB h t) (H : HG g) {j : Int} (hk : 0 ≤ j → j ≤ 1 → ¬ h (102 + 69 * j) 2 = 0 → 0 ≤ h (102 + 69 * j + 7) 1 ∧ h (102 + 69 * j + 7) 1 ≤ 10 ∧ ∀ d, 0 ≤ d → d < h t 2 → 0 ≤ h (102 + 69 * j + 3) d ∧ h (102 + 69 * j + 3) d ≤ 99) (hQ : Q (some (zi (backC g h t j).1)) (SHL, g) (backC g h t j).2) : zC l mX9_back [zr 1, zi j] (SHL, g) h Q := by
  by_cases z : 0 ≤ j ∧ j ≤ 1
  · exact qX9_back hg ht ht1 hc H (fun y => hk z.1 z.2 y) hQ
  · have e : backC g h t j = (-1, h) := if_neg z
    rw [e] at hQ
    exact qX9_back_out hg ht ht1 hc z hQ
/-- a house is told, in both -/
theorem law_pr {g h h1 : zH} {t k s : Int} (V : IV g h t k) (e16 : h1 240 16 = h 240 16) (e9 : ∀ i, h1 249 i = h 249 i) : prs (h1 249) (h1 240 16) ((h1 240 16).toNat + 1) (tn (fun i b => h (s + i) b)) 0 0 = prs (h 3) (h 2 1) ((h 2 1).toNat + 1) (tn (fun i b => h (s + i) b)) 0 0 := by
  obtain ⟨R, hm, _⟩ := V
  obtain ⟨x0, x1, x2⟩ := R.2.2.2.2.2
  have m6 := hm.1.2.2.2.2.2.2.1
  rw [e16, ← x1]
  have tc := tn_c (fun i b => h (s + i) b)
  exact prs_cg (fun i i0 i1 => by rw [e9 i]; exact (x2 i i0 (by omega)).symm) _ _ 0 0 (FO_tn _) (by omega) (by omega) (by omega) (fun _ => ⟨tc.2.1, tc.2.2.1⟩)
theorem PH_24 {h F : zH} {s a p k v f x y : Int} (hs : s = 4 ∨ s = 14) (hx : 24 ≤ x) : PH h s F a p k v f x y = h x y := PH_ne (by omega) (by omega)
theorem hsC_24 {X : zH} {s x y : Int} (hx : 240 ≤ x) : hsC X s x y = X x y := by
  unfold hsC
  rw [zup_ne (by omega), zup_ne (by omega), zup_ne (by omega), zup_ne (by omega), bg_ne (by omega), zup_ne (by omega)]
theorem law_f {g h F G : zH} {t k s a p kd v f a' f' c' q' : Int} (V : IV g h t k) (hk : k ≤ 600) (hs : s = 18 - t) : IV g (MH (PH h s F a p kd v f) G a' f' c' q') t (k + 1) := by
  have S0 := V.si hk
  obtain ⟨R, hm, hg, H, ht, t1, t2, tr⟩ := V
  have hs4 : s = 4 ∨ s = 14 := by omega
  have em : ∀ x y, usM x y → MH (PH h s F a p kd v f) G a' f' c' q' x y = h x y := fun x y u => by
    have ge := usM_ge u
    rw [MH_ne (by unfold usM at u; omega) (by unfold usM at u; omega), PH_24 hs4 (by omega)]
  have ec : ∀ x y, usC t x y → MH (PH h s F a p kd v f) G a' f' c' q' x y = h x y := fun x y u => by
    have lt := usC_lt ht u
    rw [MH_ne (by omega) (by omega), PH_ne (by unfold usC at u; omega) (by unfold usC at u; omega)]
  have mb := MB_m em hm
  exact ⟨Rel_c H mb.1.2.2.2.2.1 mb.hi ec (Rel_m em R), mb, hg, H, ht, t1, t2, by rw [em 240 14 (by unfold usM; omega)]; omega⟩
theorem law_o {g h F G : zH} {t k s a p kd v f a' f' c' q' : Int} (V : IV g h t k) (hk : k ≤ 600) (hs : s = 18 - t) (hF : FO F) (rm : RM F G) : IV (zup (zup g 1 1 s) 1 2 t) (tkR (MH (hsC (PH h s F a p kd v f) s) G a' f' c' q')) s (k + 1) := by
  have S0 := V.si hk
  obtain ⟨R, hm, hg, H, ht, t1, t2, tr⟩ := V
  have hs4 : s = 4 ∨ s = 14 := by omega
  obtain ⟨C, hC⟩ : ∃ C, C = hsC (PH h s F a p kd v f) s := ⟨_, rfl⟩
  have e4 : ∀ x y, 240 ≤ x → C x y = h x y := fun x y hx => by rw [hC, hsC_24 hx, PH_24 hs4 (by omega)]
  have em : ∀ x y, usM x y → C x y = h x y := fun x y u => e4 x y (usM_ge u)
  have S1 : SI g h C t := ⟨Rel_m em R, MB_m em hm, hg, H, ht, by rw [e4 240 14 (by omega)]; exact S0.2.2.2.2.2⟩
  obtain ⟨R2, mb⟩ := hs_ok (g' := zup (zup g 1 1 s) 1 2 t) (a := a) (p := p) (kd := kd) (v := v) (f := f) (a' := a') (f' := f') (c' := c') (q' := q') S1 hs4 (by omega) hF rm
  rw [← hC] at R2 ⊢
  have HG2 : HG (zup (zup g 1 1 s) 1 2 t) := by
    have e31 : ∀ i, zup (zup g 1 1 s) 1 2 t 31 i = g 31 i := fun i => by rw [zup_ne (by omega), zup_ne (by omega)]
    refine ⟨fun i i0 i1 => ?_, fun i j i0 i1 j0 j1 e => ?_⟩
    · rw [e31]; exact H.1 i i0 i1
    · rw [e31, e31] at e; exact H.2 i j i0 i1 j0 j1 e
  have t14 : tkR (MH C G a' f' c' q') 240 14 = h 240 14 := by rw [tkR_ne (by omega) (by omega), MH_ne (by omega) (by omega), e4 240 14 (by omega)]
  refine ⟨Rel_c HG2 mb.1.2.2.2.2.1 mb.hi (fun x y u => ?_) R2, mb, zGd_1 hg, HG2, hs4, ?_, ?_, by omega⟩
  · have lt := usC_lt hs4 u
    rw [tkR_ne (by omega) (by omega), MH_ne (by omega) (by omega)]
  · rw [zup_ne (by omega), zup_same]
  · rw [zup_same]; omega
theorem lB1 {g : zH} {T : zMd} (h : zmc T = 0) : (SHL, g).1.length + zmc T ≤ SHL.length := by rw [h]; exact Nat.le_refl _
theorem lB3 (g : zH) : ztot (SHL, g) = tot SHL := by unfold ztot tot; rfl
theorem lB2 {g : zH} {T : zMd} (h : zms T = 0) : ztot (SHL, g) + zms T ≤ tot SHL := by rw [h, Nat.add_zero, lB3]; exact Nat.le_refl _
theorem lw_loop {l : Launch} {b L : Nat} {xs : Nat → Int32} {Q : zQt} (hL : L ≤ 2048) (hQ : ∀ g h, Q (some (zi 1)) (SHL, g) h) :
    ∀ (n k : Nat) (g h : zH) (t : Int), (L : Int) - 4 * (k : Int) < n → 4 * (k : Int) ≤ L → IV g h t k → zW (zXs b L xs) l mL_law SHL.length (tot SHL) Q 18 [some (zr (zsr b)), some (zr 1), some (zr 240), some (zi (4 * (k : Int)))] [] (SHL, g) h := by
  have hz0 : zsr b ≠ 0 := by show -((b : Int) + 1) ≠ 0; omega
  intro n
  induction n with
  | zero => intro k g h t hn hk; omega
  | succ n ih =>
    intro k g h t hn hk V
    have hQ := hQ g h
    obtain ⟨R0, hm, hg, H, ht, ht1, ht2, tr0⟩ := id V
    have hc := R0.cb hm
    have hs4 : 18 - t = 4 ∨ 18 - t = 14 := by omega
    have iv := law_id V
    have tc := tn_c (fun i b => h ((18 - t) + i) b)
    clear R0 tr0
    refine z_iload_n dL_law_18 rfl ?_
    refine z_aload_n dL_law_19 rfl hz0 ?_
    refine z_slen dL_law_20 (by omega) ?_
    refine z_iconst dL_law_21 ⟨by decide, by decide⟩ ?_
    refine y_isub dL_law_22 (by omega) (by omega) ?_
    refine z_icmp_gt (tgt := 854) dL_law_23 (by decide) (fun c23 => ?_) (fun c23 => ?_)
    ·
      refine z_iconst dL_law_854 ⟨by decide, by decide⟩ ?_
      refine z_ret (v := some (zi 1)) dL_law_855 (Or.inr rfl) rfl (lB3 g) rfl ?_
      exact hQ
    ·
      refine z_aload_n dL_law_26 rfl hz0 ?_
      refine z_iload_n dL_law_27 rfl ?_
      refine z_sld dL_law_28 (by omega) (by omega) ?_
      refine z_bipush dL_law_29 ⟨by decide, by decide⟩ ?_
      refine z_iand dL_law_31 ?_
      refine y_ts (td := 848) [156, 179, 192, 205, 238, 271, 304, 337, 360, 403, 436, 459, 472, 495, 538, 571, 594, 617, 660, 693, 706, 719, 732, 765, 788, 811, 834] dL_law_32 (by decide) (by decide) (by decide) (fun c32 => ?_) (fun j32 hj32 c32 => ?_)
      ·
        refine y_iinc dL_law_848 (by decide) rfl rfl (by omega) (by omega) lss_4_3 ?_
        refine z_goto (tgt := 18) dL_law_851 (by decide) ?_
        have K := ih (k + 1) _ _ _ (by omega) (by omega) iv
        rw [show (4 : Int) * ((k + 1 : Nat) : Int) = 4 * (k : Int) + 4 by omega] at K
        exact K
      ·
        rcases (show j32 = 0 ∨ j32 = 1 ∨ j32 = 2 ∨ j32 = 3 ∨ j32 = 4 ∨ j32 = 5 ∨ j32 = 6 ∨ j32 = 7 ∨ j32 = 8 ∨ j32 = 9 ∨ j32 = 10 ∨ j32 = 11 ∨ j32 = 12 ∨ j32 = 13 ∨ j32 = 14 ∨ j32 = 15 ∨ j32 = 16 ∨ j32 = 17 ∨ j32 = 18 ∨ j32 = 19 ∨ j32 = 20 ∨ j32 = 21 ∨ j32 = 22 ∨ j32 = 23 ∨ j32 = 24 ∨ j32 = 25 ∨ j32 = 26 by have h9 : j32 < 27 := hj32; omega) with rfl | rfl | rfl | rfl | rfl | rfl | rfl | rfl | rfl | rfl | rfl | rfl | rfl | rfl | rfl | rfl | rfl | rfl | rfl | rfl | rfl | rfl | rfl | rfl | rfl | rfl | rfl
        ·
          refine z_aload_n dL_law_156 rfl (by omega) ?_
          refine z_aload_n dL_law_157 rfl hz0 ?_
          refine z_iload_n dL_law_158 rfl ?_
          refine z_iconst dL_law_159 ⟨by decide, by decide⟩ ?_
          refine y_iadd dL_law_160 (by omega) (by omega) ?_
          refine z_sld dL_law_161 (by omega) (by omega) ?_
          refine z_callV (T := mX9_type) (As := [_]) kX9_type ml_L_13 ⟨by decide, by decide⟩ dL_law_162 rfl rfl (Nat.le_of_ble_eq_true rfl) sh_1 ⟨by decide, rfl⟩ (lB1 rfl) (lB2 rfl) (qX9_type hg ht ht1 hc ?_)
          obtain ⟨mb, hg2, ev, iv⟩ := law_st V (by omega) (((typeC h ((xs (4 * (k : Int) + 1).toNat).toInt)).1, g, (typeC h ((xs (4 * (k : Int) + 1).toNat).toInt)).2)) (fun m => typeR m ((xs (4 * (k : Int) + 1).toNat).toInt)) (fun m S => St_type S _)
          replace mb : MB (((typeC h ((xs (4 * (k : Int) + 1).toNat).toInt)).1, g, (typeC h ((xs (4 * (k : Int) + 1).toNat).toInt)).2)).2.2 := mb
          refine z_aload_n dL_law_165 rfl (by omega) ?_
          refine z_aload_n dL_law_166 rfl hz0 ?_
          refine z_iload_n dL_law_167 rfl ?_
          refine z_iconst dL_law_168 ⟨by decide, by decide⟩ ?_
          refine y_iadd dL_law_169 (by omega) (by omega) ?_
          refine z_sld dL_law_170 (by omega) (by omega) ?_
          refine z_callV (T := mX10_type) (As := [_]) kX10_type ml_L_17 ⟨by decide, by decide⟩ dL_law_171 rfl rfl (Nat.le_of_ble_eq_true rfl) sh_240 ⟨by decide, rfl⟩ (lB1 rfl) (lB2 rfl) (qX10_type hg2 mb ?_)
          refine z_icmp_eq (tgt := 848) dL_law_174 (by decide) (fun _ => ?_) (fun q => absurd ev q)
          refine y_iinc dL_law_848 (by decide) rfl rfl (by omega) (by omega) lss_4_3 ?_
          refine z_goto (tgt := 18) dL_law_851 (by decide) ?_
          have K := ih (k + 1) _ _ _ (by omega) (by omega) iv
          rw [show (4 : Int) * ((k + 1 : Nat) : Int) = 4 * (k : Int) + 4 by omega] at K
          exact K
        ·
          refine z_aload_n dL_law_179 rfl (by omega) ?_
          refine z_callV (T := mX9_clear) (As := []) kX9_clear ml_L_18 ⟨by decide, by decide⟩ dL_law_180 rfl rfl (Nat.le_of_ble_eq_true rfl) sh_1 ⟨by decide, rfl⟩ (lB1 rfl) (lB2 rfl) (qX9_clear hg ht ht1 hc ?_)
          obtain ⟨mb, hg2, ev, iv⟩ := law_st V (by omega) ((h 2 1, g, zup h 2 1 0)) (fun m => clearR m) (fun m S => St_clear S)
          replace mb : MB ((h 2 1, g, zup h 2 1 0)).2.2 := mb
          refine z_aload_n dL_law_183 rfl (by omega) ?_
          refine z_callV (T := mX10_clear) (As := []) kX10_clear ml_L_22 ⟨by decide, by decide⟩ dL_law_184 rfl rfl (Nat.le_of_ble_eq_true rfl) sh_240 ⟨by decide, rfl⟩ (lB1 rfl) (lB2 rfl) (qX10_clear hg2 ?_)
          refine z_icmp_eq (tgt := 848) dL_law_187 (by decide) (fun _ => ?_) (fun q => absurd ev q)
          refine y_iinc dL_law_848 (by decide) rfl rfl (by omega) (by omega) lss_4_3 ?_
          refine z_goto (tgt := 18) dL_law_851 (by decide) ?_
          have K := ih (k + 1) _ _ _ (by omega) (by omega) iv
          rw [show (4 : Int) * ((k + 1 : Nat) : Int) = 4 * (k : Int) + 4 by omega] at K
          exact K
        ·
          refine z_aload_n dL_law_192 rfl (by omega) ?_
          refine z_callV (T := mX9_house) (As := []) kX9_house ml_L_23 ⟨by decide, by decide⟩ dL_law_193 rfl rfl (Nat.le_of_ble_eq_true rfl) sh_1 ⟨by decide, rfl⟩ (lB1 rfl) (lB2 rfl) (qX9_house hg ht ht1 hs4 ht2 (by rw [V.1.2.2.2.2.2.2.1]; exact hm.1.2.2.2.2.2.2.1) (fun i i0 i1 => by rw [V.1.2.2.2.2.2.2.1] at i1; rw [V.1.2.2.2.2.2.2.2 i i0 i1]; exact hm.2.2.2.2.2.2.2.2 i i0 i1) (fun e9 a9 p9 k9 v9 => ?_) (fun e9 F9 a9 p9 k9 v9 => ?_))
          ·
            have f16 : (hsC (PH h (18 - t) (prs (h 3) (h 2 1) ((h 2 1).toNat + 1) (tn (fun i b => h ((18 - t) + i) b)) 0 0).2.1 a9 p9 k9 v9 0) (18 - t)) 240 16 = h 240 16 := by rw [hsC_24 (by omega), PH_24 hs4 (by omega)]
            have f9 : ∀ i, (hsC (PH h (18 - t) (prs (h 3) (h 2 1) ((h 2 1).toNat + 1) (tn (fun i b => h ((18 - t) + i) b)) 0 0).2.1 a9 p9 k9 v9 0) (18 - t)) 249 i = h 249 i := fun i => by rw [hsC_24 (by omega), PH_24 hs4 (by omega)]
            have lp := law_pr (s := 18 - t) V f16 f9
            have hg2 := zGd_1 (v := 18 - t) (u := t) hg
            refine z_aload_n dL_law_196 rfl (by omega) ?_
            refine z_callV (T := mX10_house) (As := []) kX10_house ml_L_26 ⟨by decide, by decide⟩ dL_law_197 rfl rfl (Nat.le_of_ble_eq_true rfl) sh_240 ⟨by decide, rfl⟩ (lB1 rfl) (lB2 rfl) (qX10_house (F := (tn (fun i b => h ((18 - t) + i) b))) hg2 (by rw [f16]; exact hm.1.2.2.2.2.2.2.1) (fun i i0 i1 => by rw [f16] at i1; rw [f9]; exact hm.2.2.2.2.2.2.2.2 i i0 i1) tc.1 tc.2.1 tc.2.2.1 tc.2.2.2 (fun z G5 a5 c5 q5 rm5 fo5 => ?_) (fun z G5 a5 c5 q5 => ?_))
            ·
              rw [lp] at z rm5 fo5 ⊢
              have iv := law_o (a := a9) (p := p9) (kd := k9) (v := v9) (f := 0) (a' := a5) (f' := -9) (c' := c5) (q' := q5) V (by omega) rfl fo5 rm5
              refine z_icmp_eq (tgt := 848) dL_law_200 (by decide) (fun _ => ?_) (fun q => absurd rfl q)
              refine y_iinc dL_law_848 (by decide) rfl rfl (by omega) (by omega) lss_4_3 ?_
              refine z_goto (tgt := 18) dL_law_851 (by decide) ?_
              have K := ih (k + 1) _ _ _ (by omega) (by omega) iv
              rw [show (4 : Int) * ((k + 1 : Nat) : Int) = 4 * (k : Int) + 4 by omega] at K
              exact K
            ·
              rw [lp] at z
              exact absurd e9 z
          ·
            have f16 : (PH h (18 - t) F9 a9 p9 k9 v9 1) 240 16 = h 240 16 := PH_24 hs4 (by omega)
            have f9 : ∀ i, (PH h (18 - t) F9 a9 p9 k9 v9 1) 249 i = h 249 i := fun i => PH_24 hs4 (by omega)
            have lp := law_pr (s := 18 - t) V f16 f9
            refine z_aload_n dL_law_196 rfl (by omega) ?_
            refine z_callV (T := mX10_house) (As := []) kX10_house ml_L_26 ⟨by decide, by decide⟩ dL_law_197 rfl rfl (Nat.le_of_ble_eq_true rfl) sh_240 ⟨by decide, rfl⟩ (lB1 rfl) (lB2 rfl) (qX10_house (F := (tn (fun i b => h ((18 - t) + i) b))) hg (by rw [f16]; exact hm.1.2.2.2.2.2.2.1) (fun i i0 i1 => by rw [f16] at i1; rw [f9]; exact hm.2.2.2.2.2.2.2.2 i i0 i1) tc.1 tc.2.1 tc.2.2.1 tc.2.2.2 (fun z G5 a5 c5 q5 rm5 fo5 => ?_) (fun z G5 a5 c5 q5 => ?_))
            ·
              exact absurd (lp ▸ z) e9
            ·
              rw [lp] at z ⊢
              have iv := law_f (F := F9) (G := G5) (s := 18 - t) (a := a9) (p := p9) (kd := k9) (v := v9) (f := 1) (a' := a5) (f' := (prs (h 3) (h 2 1) ((h 2 1).toNat + 1) (tn (fun i b => h ((18 - t) + i) b)) 0 0).1) (c' := c5) (q' := q5) V (by omega) rfl
              refine z_icmp_eq (tgt := 848) dL_law_200 (by decide) (fun _ => ?_) (fun q => absurd rfl q)
              refine y_iinc dL_law_848 (by decide) rfl rfl (by omega) (by omega) lss_4_3 ?_
              refine z_goto (tgt := 18) dL_law_851 (by decide) ?_
              have K := ih (k + 1) _ _ _ (by omega) (by omega) iv
              rw [show (4 : Int) * ((k + 1 : Nat) : Int) = 4 * (k : Int) + 4 by omega] at K
              exact K
        ·
          refine z_aload_n dL_law_205 rfl (by omega) ?_
          refine z_aload_n dL_law_206 rfl hz0 ?_
          refine z_iload_n dL_law_207 rfl ?_
          refine z_iconst dL_law_208 ⟨by decide, by decide⟩ ?_
          refine y_iadd dL_law_209 (by omega) (by omega) ?_
          refine z_sld dL_law_210 (by omega) (by omega) ?_
          refine z_aload_n dL_law_211 rfl hz0 ?_
          refine z_iload_n dL_law_212 rfl ?_
          refine z_iconst dL_law_213 ⟨by decide, by decide⟩ ?_
          refine y_iadd dL_law_214 (by omega) (by omega) ?_
          refine z_sld dL_law_215 (by omega) (by omega) ?_
          refine z_callV (T := mX9_path) (As := [_, _]) kX9_path ml_L_27 ⟨by decide, by decide⟩ dL_law_216 rfl rfl (Nat.le_of_ble_eq_true rfl) sh_1 ⟨by decide, rfl⟩ (lB1 rfl) (lB2 rfl) (qX9_path hg ht ht1 hc ?_)
          have ev : pathC h t ((xs (4 * (k : Int) + 1).toNat).toInt) ((xs (4 * (k : Int) + 2).toNat).toInt) = pathF h ((xs (4 * (k : Int) + 1).toNat).toInt) ((xs (4 * (k : Int) + 2).toNat).toInt) := eq_path V.1 hm _ _
          have iv := law_id V
          refine z_aload_n dL_law_219 rfl (by omega) ?_
          refine z_aload_n dL_law_220 rfl hz0 ?_
          refine z_iload_n dL_law_221 rfl ?_
          refine z_iconst dL_law_222 ⟨by decide, by decide⟩ ?_
          refine y_iadd dL_law_223 (by omega) (by omega) ?_
          refine z_sld dL_law_224 (by omega) (by omega) ?_
          refine z_aload_n dL_law_225 rfl hz0 ?_
          refine z_iload_n dL_law_226 rfl ?_
          refine z_iconst dL_law_227 ⟨by decide, by decide⟩ ?_
          refine y_iadd dL_law_228 (by omega) (by omega) ?_
          refine z_sld dL_law_229 (by omega) (by omega) ?_
          refine z_callV (T := mX10_path) (As := [_, _]) kX10_path ml_L_31 ⟨by decide, by decide⟩ dL_law_230 rfl rfl (Nat.le_of_ble_eq_true rfl) sh_240 ⟨by decide, rfl⟩ (lB1 rfl) (lB2 rfl) (qX10_path hg hm ?_)
          refine z_icmp_eq (tgt := 848) dL_law_233 (by decide) (fun _ => ?_) (fun q => absurd ev q)
          refine y_iinc dL_law_848 (by decide) rfl rfl (by omega) (by omega) lss_4_3 ?_
          refine z_goto (tgt := 18) dL_law_851 (by decide) ?_
          have K := ih (k + 1) _ _ _ (by omega) (by omega) iv
          rw [show (4 : Int) * ((k + 1 : Nat) : Int) = 4 * (k : Int) + 4 by omega] at K
          exact K
        ·
          refine z_aload_n dL_law_238 rfl (by omega) ?_
          refine z_aload_n dL_law_239 rfl hz0 ?_
          refine z_iload_n dL_law_240 rfl ?_
          refine z_iconst dL_law_241 ⟨by decide, by decide⟩ ?_
          refine y_iadd dL_law_242 (by omega) (by omega) ?_
          refine z_sld dL_law_243 (by omega) (by omega) ?_
          refine z_aload_n dL_law_244 rfl hz0 ?_
          refine z_iload_n dL_law_245 rfl ?_
          refine z_iconst dL_law_246 ⟨by decide, by decide⟩ ?_
          refine y_iadd dL_law_247 (by omega) (by omega) ?_
          refine z_sld dL_law_248 (by omega) (by omega) ?_
          refine z_callV (T := mX9_director) (As := [_, _]) kX9_director ml_L_32 ⟨by decide, by decide⟩ dL_law_249 rfl rfl (Nat.le_of_ble_eq_true rfl) sh_1 ⟨by decide, rfl⟩ (lB1 rfl) (lB2 rfl) (qX9_director hg ht ht1 hc ?_)
          have ev : dirC h t ((xs (4 * (k : Int) + 1).toNat).toInt) ((xs (4 * (k : Int) + 2).toNat).toInt) = dirF h ((xs (4 * (k : Int) + 1).toNat).toInt) ((xs (4 * (k : Int) + 2).toNat).toInt) := eq_dir V.1 hm _ _
          refine z_aload_n dL_law_252 rfl (by omega) ?_
          refine z_aload_n dL_law_253 rfl hz0 ?_
          refine z_iload_n dL_law_254 rfl ?_
          refine z_iconst dL_law_255 ⟨by decide, by decide⟩ ?_
          refine y_iadd dL_law_256 (by omega) (by omega) ?_
          refine z_sld dL_law_257 (by omega) (by omega) ?_
          refine z_aload_n dL_law_258 rfl hz0 ?_
          refine z_iload_n dL_law_259 rfl ?_
          refine z_iconst dL_law_260 ⟨by decide, by decide⟩ ?_
          refine y_iadd dL_law_261 (by omega) (by omega) ?_
          refine z_sld dL_law_262 (by omega) (by omega) ?_
          refine z_callV (T := mX10_director) (As := [_, _]) kX10_director ml_L_35 ⟨by decide, by decide⟩ dL_law_263 rfl rfl (Nat.le_of_ble_eq_true rfl) sh_240 ⟨by decide, rfl⟩ (lB1 rfl) (lB2 rfl) (qX10_director hg hm (fun h2 se => ?_))
          have iv := law_q V (SC_refl h) se
          refine z_icmp_eq (tgt := 848) dL_law_266 (by decide) (fun _ => ?_) (fun q => absurd ev q)
          refine y_iinc dL_law_848 (by decide) rfl rfl (by omega) (by omega) lss_4_3 ?_
          refine z_goto (tgt := 18) dL_law_851 (by decide) ?_
          have K := ih (k + 1) _ _ _ (by omega) (by omega) iv
          rw [show (4 : Int) * ((k + 1 : Nat) : Int) = 4 * (k : Int) + 4 by omega] at K
          exact K
        ·
          refine z_aload_n dL_law_271 rfl (by omega) ?_
          refine z_aload_n dL_law_272 rfl hz0 ?_
          refine z_iload_n dL_law_273 rfl ?_
          refine z_iconst dL_law_274 ⟨by decide, by decide⟩ ?_
          refine y_iadd dL_law_275 (by omega) (by omega) ?_
          refine z_sld dL_law_276 (by omega) (by omega) ?_
          refine z_aload_n dL_law_277 rfl hz0 ?_
          refine z_iload_n dL_law_278 rfl ?_
          refine z_iconst dL_law_279 ⟨by decide, by decide⟩ ?_
          refine y_iadd dL_law_280 (by omega) (by omega) ?_
          refine z_sld dL_law_281 (by omega) (by omega) ?_
          refine z_callV (T := mX9_child) (As := [_, _]) kX9_child ml_L_36 ⟨by decide, by decide⟩ dL_law_282 rfl rfl (Nat.le_of_ble_eq_true rfl) sh_1 ⟨by decide, rfl⟩ (lB1 rfl) (lB2 rfl) (qX9_child hg ht ht1 hc ?_)
          have ev : childC h t ((xs (4 * (k : Int) + 1).toNat).toInt) ((xs (4 * (k : Int) + 2).toNat).toInt) = childF h ((xs (4 * (k : Int) + 1).toNat).toInt) ((xs (4 * (k : Int) + 2).toNat).toInt) := eq_child V.1 hm _ _
          have iv := law_id V
          refine z_aload_n dL_law_285 rfl (by omega) ?_
          refine z_aload_n dL_law_286 rfl hz0 ?_
          refine z_iload_n dL_law_287 rfl ?_
          refine z_iconst dL_law_288 ⟨by decide, by decide⟩ ?_
          refine y_iadd dL_law_289 (by omega) (by omega) ?_
          refine z_sld dL_law_290 (by omega) (by omega) ?_
          refine z_aload_n dL_law_291 rfl hz0 ?_
          refine z_iload_n dL_law_292 rfl ?_
          refine z_iconst dL_law_293 ⟨by decide, by decide⟩ ?_
          refine y_iadd dL_law_294 (by omega) (by omega) ?_
          refine z_sld dL_law_295 (by omega) (by omega) ?_
          refine z_callV (T := mX10_child) (As := [_, _]) kX10_child ml_L_39 ⟨by decide, by decide⟩ dL_law_296 rfl rfl (Nat.le_of_ble_eq_true rfl) sh_240 ⟨by decide, rfl⟩ (lB1 rfl) (lB2 rfl) (qX10_child hg hm ?_)
          refine z_icmp_eq (tgt := 848) dL_law_299 (by decide) (fun _ => ?_) (fun q => absurd ev q)
          refine y_iinc dL_law_848 (by decide) rfl rfl (by omega) (by omega) lss_4_3 ?_
          refine z_goto (tgt := 18) dL_law_851 (by decide) ?_
          have K := ih (k + 1) _ _ _ (by omega) (by omega) iv
          rw [show (4 : Int) * ((k + 1 : Nat) : Int) = 4 * (k : Int) + 4 by omega] at K
          exact K
        ·
          refine z_aload_n dL_law_304 rfl (by omega) ?_
          refine z_aload_n dL_law_305 rfl hz0 ?_
          refine z_iload_n dL_law_306 rfl ?_
          refine z_iconst dL_law_307 ⟨by decide, by decide⟩ ?_
          refine y_iadd dL_law_308 (by omega) (by omega) ?_
          refine z_sld dL_law_309 (by omega) (by omega) ?_
          refine z_aload_n dL_law_310 rfl hz0 ?_
          refine z_iload_n dL_law_311 rfl ?_
          refine z_iconst dL_law_312 ⟨by decide, by decide⟩ ?_
          refine y_iadd dL_law_313 (by omega) (by omega) ?_
          refine z_sld dL_law_314 (by omega) (by omega) ?_
          refine z_callV (T := mX9_goes) (As := [_, _]) kX9_goes ml_L_40 ⟨by decide, by decide⟩ dL_law_315 rfl rfl (Nat.le_of_ble_eq_true rfl) sh_1 ⟨by decide, rfl⟩ (lB1 rfl) (lB2 rfl) (qX9_goes hg ht ht1 hc H ?_)
          obtain ⟨mb, hg2, ev, iv⟩ := law_st V (by omega) (goesC g h t ((xs (4 * (k : Int) + 1).toNat).toInt) ((xs (4 * (k : Int) + 2).toNat).toInt)) (fun m => goesR m ((xs (4 * (k : Int) + 1).toNat).toInt) ((xs (4 * (k : Int) + 2).toNat).toInt)) (fun m S => St_goes S _ _)
          replace mb : MB (goesC g h t ((xs (4 * (k : Int) + 1).toNat).toInt) ((xs (4 * (k : Int) + 2).toNat).toInt)).2.2 := mb
          refine z_aload_n dL_law_318 rfl (by omega) ?_
          refine z_aload_n dL_law_319 rfl hz0 ?_
          refine z_iload_n dL_law_320 rfl ?_
          refine z_iconst dL_law_321 ⟨by decide, by decide⟩ ?_
          refine y_iadd dL_law_322 (by omega) (by omega) ?_
          refine z_sld dL_law_323 (by omega) (by omega) ?_
          refine z_aload_n dL_law_324 rfl hz0 ?_
          refine z_iload_n dL_law_325 rfl ?_
          refine z_iconst dL_law_326 ⟨by decide, by decide⟩ ?_
          refine y_iadd dL_law_327 (by omega) (by omega) ?_
          refine z_sld dL_law_328 (by omega) (by omega) ?_
          refine z_callV (T := mX10_goes) (As := [_, _]) kX10_goes ml_L_43 ⟨by decide, by decide⟩ dL_law_329 rfl rfl (Nat.le_of_ble_eq_true rfl) sh_240 ⟨by decide, rfl⟩ (lB1 rfl) (lB2 rfl) (qX10_goes hg2 mb ?_)
          refine z_icmp_eq (tgt := 848) dL_law_332 (by decide) (fun _ => ?_) (fun q => absurd ev q)
          refine y_iinc dL_law_848 (by decide) rfl rfl (by omega) (by omega) lss_4_3 ?_
          refine z_goto (tgt := 18) dL_law_851 (by decide) ?_
          have K := ih (k + 1) _ _ _ (by omega) (by omega) iv
          rw [show (4 : Int) * ((k + 1 : Nat) : Int) = 4 * (k : Int) + 4 by omega] at K
          exact K
        ·
          refine z_aload_n dL_law_337 rfl (by omega) ?_
          refine z_aload_n dL_law_338 rfl hz0 ?_
          refine z_iload_n dL_law_339 rfl ?_
          refine z_iconst dL_law_340 ⟨by decide, by decide⟩ ?_
          refine y_iadd dL_law_341 (by omega) (by omega) ?_
          refine z_sld dL_law_342 (by omega) (by omega) ?_
          refine z_callV (T := mX9_rests) (As := [_]) kX9_rests ml_L_44 ⟨by decide, by decide⟩ dL_law_343 rfl rfl (Nat.le_of_ble_eq_true rfl) sh_1 ⟨by decide, rfl⟩ (lB1 rfl) (lB2 rfl) (qX9_rests hg ht ht1 hc H ?_)
          obtain ⟨mb, hg2, ev, iv⟩ := law_st V (by omega) (restsC g h t ((xs (4 * (k : Int) + 1).toNat).toInt)) (fun m => restsR m ((xs (4 * (k : Int) + 1).toNat).toInt)) (fun m S => St_rests S _)
          replace mb : MB (restsC g h t ((xs (4 * (k : Int) + 1).toNat).toInt)).2.2 := mb
          refine z_aload_n dL_law_346 rfl (by omega) ?_
          refine z_aload_n dL_law_347 rfl hz0 ?_
          refine z_iload_n dL_law_348 rfl ?_
          refine z_iconst dL_law_349 ⟨by decide, by decide⟩ ?_
          refine y_iadd dL_law_350 (by omega) (by omega) ?_
          refine z_sld dL_law_351 (by omega) (by omega) ?_
          refine z_callV (T := mX10_rests) (As := [_]) kX10_rests ml_L_47 ⟨by decide, by decide⟩ dL_law_352 rfl rfl (Nat.le_of_ble_eq_true rfl) sh_240 ⟨by decide, rfl⟩ (lB1 rfl) (lB2 rfl) (qX10_rests hg2 mb ?_)
          refine z_icmp_eq (tgt := 848) dL_law_355 (by decide) (fun _ => ?_) (fun q => absurd ev q)
          refine y_iinc dL_law_848 (by decide) rfl rfl (by omega) (by omega) lss_4_3 ?_
          refine z_goto (tgt := 18) dL_law_851 (by decide) ?_
          have K := ih (k + 1) _ _ _ (by omega) (by omega) iv
          rw [show (4 : Int) * ((k + 1 : Nat) : Int) = 4 * (k : Int) + 4 by omega] at K
          exact K
        ·
          refine z_aload_n dL_law_360 rfl (by omega) ?_
          refine z_aload_n dL_law_361 rfl hz0 ?_
          refine z_iload_n dL_law_362 rfl ?_
          refine z_iconst dL_law_363 ⟨by decide, by decide⟩ ?_
          refine y_iadd dL_law_364 (by omega) (by omega) ?_
          refine z_sld dL_law_365 (by omega) (by omega) ?_
          refine z_aload_n dL_law_366 rfl hz0 ?_
          refine z_iload_n dL_law_367 rfl ?_
          refine z_iconst dL_law_368 ⟨by decide, by decide⟩ ?_
          refine y_iadd dL_law_369 (by omega) (by omega) ?_
          refine z_sld dL_law_370 (by omega) (by omega) ?_
          refine z_aload_n dL_law_371 rfl hz0 ?_
          refine z_iload_n dL_law_372 rfl ?_
          refine z_iconst dL_law_373 ⟨by decide, by decide⟩ ?_
          refine y_iadd dL_law_374 (by omega) (by omega) ?_
          refine z_sld dL_law_375 (by omega) (by omega) ?_
          refine z_callV (T := mX9_offends) (As := [_, _, _]) kX9_offends ml_L_48 ⟨by decide, by decide⟩ dL_law_376 rfl rfl (Nat.le_of_ble_eq_true rfl) sh_1 ⟨by decide, rfl⟩ (lB1 rfl) (lB2 rfl) (qX9_offends hg ht ht1 hc H ?_)
          obtain ⟨mb, hg2, ev, iv⟩ := law_st V (by omega) (offC g h t ((xs (4 * (k : Int) + 1).toNat).toInt) ((xs (4 * (k : Int) + 2).toNat).toInt) ((xs (4 * (k : Int) + 3).toNat).toInt)) (fun m => offR m ((xs (4 * (k : Int) + 1).toNat).toInt) ((xs (4 * (k : Int) + 2).toNat).toInt) ((xs (4 * (k : Int) + 3).toNat).toInt)) (fun m S => St_off S _ _ _)
          replace mb : MB (offC g h t ((xs (4 * (k : Int) + 1).toNat).toInt) ((xs (4 * (k : Int) + 2).toNat).toInt) ((xs (4 * (k : Int) + 3).toNat).toInt)).2.2 := mb
          refine z_aload_n dL_law_379 rfl (by omega) ?_
          refine z_aload_n dL_law_380 rfl hz0 ?_
          refine z_iload_n dL_law_381 rfl ?_
          refine z_iconst dL_law_382 ⟨by decide, by decide⟩ ?_
          refine y_iadd dL_law_383 (by omega) (by omega) ?_
          refine z_sld dL_law_384 (by omega) (by omega) ?_
          refine z_aload_n dL_law_385 rfl hz0 ?_
          refine z_iload_n dL_law_386 rfl ?_
          refine z_iconst dL_law_387 ⟨by decide, by decide⟩ ?_
          refine y_iadd dL_law_388 (by omega) (by omega) ?_
          refine z_sld dL_law_389 (by omega) (by omega) ?_
          refine z_aload_n dL_law_390 rfl hz0 ?_
          refine z_iload_n dL_law_391 rfl ?_
          refine z_iconst dL_law_392 ⟨by decide, by decide⟩ ?_
          refine y_iadd dL_law_393 (by omega) (by omega) ?_
          refine z_sld dL_law_394 (by omega) (by omega) ?_
          refine z_callV (T := mX10_offends) (As := [_, _, _]) kX10_offends ml_L_52 ⟨by decide, by decide⟩ dL_law_395 rfl rfl (Nat.le_of_ble_eq_true rfl) sh_240 ⟨by decide, rfl⟩ (lB1 rfl) (lB2 rfl) (qX10_offends hg2 mb ?_)
          refine z_icmp_eq (tgt := 848) dL_law_398 (by decide) (fun _ => ?_) (fun q => absurd ev q)
          refine y_iinc dL_law_848 (by decide) rfl rfl (by omega) (by omega) lss_4_3 ?_
          refine z_goto (tgt := 18) dL_law_851 (by decide) ?_
          have K := ih (k + 1) _ _ _ (by omega) (by omega) iv
          rw [show (4 : Int) * ((k + 1 : Nat) : Int) = 4 * (k : Int) + 4 by omega] at K
          exact K
        ·
          refine z_aload_n dL_law_403 rfl (by omega) ?_
          refine z_aload_n dL_law_404 rfl hz0 ?_
          refine z_iload_n dL_law_405 rfl ?_
          refine z_iconst dL_law_406 ⟨by decide, by decide⟩ ?_
          refine y_iadd dL_law_407 (by omega) (by omega) ?_
          refine z_sld dL_law_408 (by omega) (by omega) ?_
          refine z_aload_n dL_law_409 rfl hz0 ?_
          refine z_iload_n dL_law_410 rfl ?_
          refine z_iconst dL_law_411 ⟨by decide, by decide⟩ ?_
          refine y_iadd dL_law_412 (by omega) (by omega) ?_
          refine z_sld dL_law_413 (by omega) (by omega) ?_
          refine z_callV (T := mX9_shifts) (As := [_, _]) kX9_shifts ml_L_53 ⟨by decide, by decide⟩ dL_law_414 rfl rfl (Nat.le_of_ble_eq_true rfl) sh_1 ⟨by decide, rfl⟩ (lB1 rfl) (lB2 rfl) (qX9_shifts hg ht ht1 hc H ?_)
          obtain ⟨mb, hg2, ev, iv⟩ := law_st V (by omega) (shiC g h t ((xs (4 * (k : Int) + 1).toNat).toInt) ((xs (4 * (k : Int) + 2).toNat).toInt)) (fun m => shiR m ((xs (4 * (k : Int) + 1).toNat).toInt) ((xs (4 * (k : Int) + 2).toNat).toInt)) (fun m S => St_shi S _ _)
          replace mb : MB (shiC g h t ((xs (4 * (k : Int) + 1).toNat).toInt) ((xs (4 * (k : Int) + 2).toNat).toInt)).2.2 := mb
          refine z_aload_n dL_law_417 rfl (by omega) ?_
          refine z_aload_n dL_law_418 rfl hz0 ?_
          refine z_iload_n dL_law_419 rfl ?_
          refine z_iconst dL_law_420 ⟨by decide, by decide⟩ ?_
          refine y_iadd dL_law_421 (by omega) (by omega) ?_
          refine z_sld dL_law_422 (by omega) (by omega) ?_
          refine z_aload_n dL_law_423 rfl hz0 ?_
          refine z_iload_n dL_law_424 rfl ?_
          refine z_iconst dL_law_425 ⟨by decide, by decide⟩ ?_
          refine y_iadd dL_law_426 (by omega) (by omega) ?_
          refine z_sld dL_law_427 (by omega) (by omega) ?_
          refine z_callV (T := mX10_shifts) (As := [_, _]) kX10_shifts ml_L_56 ⟨by decide, by decide⟩ dL_law_428 rfl rfl (Nat.le_of_ble_eq_true rfl) sh_240 ⟨by decide, rfl⟩ (lB1 rfl) (lB2 rfl) (qX10_shifts hg2 mb ?_)
          refine z_icmp_eq (tgt := 848) dL_law_431 (by decide) (fun _ => ?_) (fun q => absurd ev q)
          refine y_iinc dL_law_848 (by decide) rfl rfl (by omega) (by omega) lss_4_3 ?_
          refine z_goto (tgt := 18) dL_law_851 (by decide) ?_
          have K := ih (k + 1) _ _ _ (by omega) (by omega) iv
          rw [show (4 : Int) * ((k + 1 : Nat) : Int) = 4 * (k : Int) + 4 by omega] at K
          exact K
        ·
          refine z_aload_n dL_law_436 rfl (by omega) ?_
          refine z_aload_n dL_law_437 rfl hz0 ?_
          refine z_iload_n dL_law_438 rfl ?_
          refine z_iconst dL_law_439 ⟨by decide, by decide⟩ ?_
          refine y_iadd dL_law_440 (by omega) (by omega) ?_
          refine z_sld dL_law_441 (by omega) (by omega) ?_
          refine z_callV (T := mX9_calls) (As := [_]) kX9_calls ml_L_57 ⟨by decide, by decide⟩ dL_law_442 rfl rfl (Nat.le_of_ble_eq_true rfl) sh_1 ⟨by decide, rfl⟩ (lB1 rfl) (lB2 rfl) (qX9_calls hg ht ht1 hc H ?_)
          obtain ⟨mb, hg2, ev, iv⟩ := law_st V (by omega) (callsC g h t ((xs (4 * (k : Int) + 1).toNat).toInt)) (fun m => callsR m ((xs (4 * (k : Int) + 1).toNat).toInt)) (fun m S => St_calls S _)
          replace mb : MB (callsC g h t ((xs (4 * (k : Int) + 1).toNat).toInt)).2.2 := mb
          refine z_aload_n dL_law_445 rfl (by omega) ?_
          refine z_aload_n dL_law_446 rfl hz0 ?_
          refine z_iload_n dL_law_447 rfl ?_
          refine z_iconst dL_law_448 ⟨by decide, by decide⟩ ?_
          refine y_iadd dL_law_449 (by omega) (by omega) ?_
          refine z_sld dL_law_450 (by omega) (by omega) ?_
          refine z_callV (T := mX10_calls) (As := [_]) kX10_calls ml_L_60 ⟨by decide, by decide⟩ dL_law_451 rfl rfl (Nat.le_of_ble_eq_true rfl) sh_240 ⟨by decide, rfl⟩ (lB1 rfl) (lB2 rfl) (qX10_calls hg2 mb ?_)
          refine z_icmp_eq (tgt := 848) dL_law_454 (by decide) (fun _ => ?_) (fun q => absurd ev q)
          refine y_iinc dL_law_848 (by decide) rfl rfl (by omega) (by omega) lss_4_3 ?_
          refine z_goto (tgt := 18) dL_law_851 (by decide) ?_
          have K := ih (k + 1) _ _ _ (by omega) (by omega) iv
          rw [show (4 : Int) * ((k + 1 : Nat) : Int) = 4 * (k : Int) + 4 by omega] at K
          exact K
        ·
          refine z_aload_n dL_law_459 rfl (by omega) ?_
          refine z_callV (T := mX9_undo) (As := []) kX9_undo ml_L_61 ⟨by decide, by decide⟩ dL_law_460 rfl rfl (Nat.le_of_ble_eq_true rfl) sh_1 ⟨by decide, rfl⟩ (lB1 rfl) (lB2 rfl) (qX9_undo hg ht ht1 hc H ?_)
          obtain ⟨mb, hg2, ev, iv⟩ := law_st V (by omega) (undoC g h) (fun m => undoR m) (fun m S => St_undo S)
          replace mb : MB (undoC g h).2.2 := mb
          refine z_aload_n dL_law_463 rfl (by omega) ?_
          refine z_callV (T := mX10_undo) (As := []) kX10_undo ml_L_64 ⟨by decide, by decide⟩ dL_law_464 rfl rfl (Nat.le_of_ble_eq_true rfl) sh_240 ⟨by decide, rfl⟩ (lB1 rfl) (lB2 rfl) (qX10_undo hg2 mb ?_)
          refine z_icmp_eq (tgt := 848) dL_law_467 (by decide) (fun _ => ?_) (fun q => absurd ev q)
          refine y_iinc dL_law_848 (by decide) rfl rfl (by omega) (by omega) lss_4_3 ?_
          refine z_goto (tgt := 18) dL_law_851 (by decide) ?_
          have K := ih (k + 1) _ _ _ (by omega) (by omega) iv
          rw [show (4 : Int) * ((k + 1 : Nat) : Int) = 4 * (k : Int) + 4 by omega] at K
          exact K
        ·
          refine z_aload_n dL_law_472 rfl (by omega) ?_
          refine z_aload_n dL_law_473 rfl hz0 ?_
          refine z_iload_n dL_law_474 rfl ?_
          refine z_iconst dL_law_475 ⟨by decide, by decide⟩ ?_
          refine y_iadd dL_law_476 (by omega) (by omega) ?_
          refine z_sld dL_law_477 (by omega) (by omega) ?_
          refine z_callV (T := mX9_now) (As := [_]) kX9_now ml_L_65 ⟨by decide, by decide⟩ dL_law_478 rfl rfl (Nat.le_of_ble_eq_true rfl) sh_1 ⟨by decide, rfl⟩ (lB1 rfl) (lB2 rfl) (qX9_now hg ht ht1 hc (fun h1 sc => ?_))
          obtain ⟨R1, mb⟩ := law_q1 V sc
          have ev : nowC h t ((xs (4 * (k : Int) + 1).toNat).toInt) = nowF h1 ((xs (4 * (k : Int) + 1).toNat).toInt) := eq_now R1 mb _
          refine z_aload_n dL_law_481 rfl (by omega) ?_
          refine z_aload_n dL_law_482 rfl hz0 ?_
          refine z_iload_n dL_law_483 rfl ?_
          refine z_iconst dL_law_484 ⟨by decide, by decide⟩ ?_
          refine y_iadd dL_law_485 (by omega) (by omega) ?_
          refine z_sld dL_law_486 (by omega) (by omega) ?_
          refine z_callV (T := mX10_now) (As := [_]) kX10_now ml_L_68 ⟨by decide, by decide⟩ dL_law_487 rfl rfl (Nat.le_of_ble_eq_true rfl) sh_240 ⟨by decide, rfl⟩ (lB1 rfl) (lB2 rfl) (qX10_now hg mb (fun h2 se => ?_))
          have iv := law_q V sc se
          refine z_icmp_eq (tgt := 848) dL_law_490 (by decide) (fun _ => ?_) (fun q => absurd ev q)
          refine y_iinc dL_law_848 (by decide) rfl rfl (by omega) (by omega) lss_4_3 ?_
          refine z_goto (tgt := 18) dL_law_851 (by decide) ?_
          have K := ih (k + 1) _ _ _ (by omega) (by omega) iv
          rw [show (4 : Int) * ((k + 1 : Nat) : Int) = 4 * (k : Int) + 4 by omega] at K
          exact K
        ·
          refine z_aload_n dL_law_495 rfl (by omega) ?_
          refine z_aload_n dL_law_496 rfl hz0 ?_
          refine z_iload_n dL_law_497 rfl ?_
          refine z_iconst dL_law_498 ⟨by decide, by decide⟩ ?_
          refine y_iadd dL_law_499 (by omega) (by omega) ?_
          refine z_sld dL_law_500 (by omega) (by omega) ?_
          refine z_aload_n dL_law_501 rfl hz0 ?_
          refine z_iload_n dL_law_502 rfl ?_
          refine z_iconst dL_law_503 ⟨by decide, by decide⟩ ?_
          refine y_iadd dL_law_504 (by omega) (by omega) ?_
          refine z_sld dL_law_505 (by omega) (by omega) ?_
          refine z_aload_n dL_law_506 rfl hz0 ?_
          refine z_iload_n dL_law_507 rfl ?_
          refine z_iconst dL_law_508 ⟨by decide, by decide⟩ ?_
          refine y_iadd dL_law_509 (by omega) (by omega) ?_
          refine z_sld dL_law_510 (by omega) (by omega) ?_
          refine z_callV (T := mX9_way) (As := [_, _, _]) kX9_way ml_L_69 ⟨by decide, by decide⟩ dL_law_511 rfl rfl (Nat.le_of_ble_eq_true rfl) sh_1 ⟨by decide, rfl⟩ (lB1 rfl) (lB2 rfl) (qX9_way hg ht ht1 hc (fun h1 sc => ?_))
          obtain ⟨R1, mb⟩ := law_q1 V sc
          have ev : wayC h t ((xs (4 * (k : Int) + 1).toNat).toInt) ((xs (4 * (k : Int) + 2).toNat).toInt) ((xs (4 * (k : Int) + 3).toNat).toInt) = wayF h1 ((xs (4 * (k : Int) + 1).toNat).toInt) ((xs (4 * (k : Int) + 2).toNat).toInt) ((xs (4 * (k : Int) + 3).toNat).toInt) := eq_way R1 mb _ _ _
          refine z_aload_n dL_law_514 rfl (by omega) ?_
          refine z_aload_n dL_law_515 rfl hz0 ?_
          refine z_iload_n dL_law_516 rfl ?_
          refine z_iconst dL_law_517 ⟨by decide, by decide⟩ ?_
          refine y_iadd dL_law_518 (by omega) (by omega) ?_
          refine z_sld dL_law_519 (by omega) (by omega) ?_
          refine z_aload_n dL_law_520 rfl hz0 ?_
          refine z_iload_n dL_law_521 rfl ?_
          refine z_iconst dL_law_522 ⟨by decide, by decide⟩ ?_
          refine y_iadd dL_law_523 (by omega) (by omega) ?_
          refine z_sld dL_law_524 (by omega) (by omega) ?_
          refine z_aload_n dL_law_525 rfl hz0 ?_
          refine z_iload_n dL_law_526 rfl ?_
          refine z_iconst dL_law_527 ⟨by decide, by decide⟩ ?_
          refine y_iadd dL_law_528 (by omega) (by omega) ?_
          refine z_sld dL_law_529 (by omega) (by omega) ?_
          refine z_callV (T := mX10_way) (As := [_, _, _]) kX10_way ml_L_72 ⟨by decide, by decide⟩ dL_law_530 rfl rfl (Nat.le_of_ble_eq_true rfl) sh_240 ⟨by decide, rfl⟩ (lB1 rfl) (lB2 rfl) (qX10_way2 hg mb (fun h2 se => ?_))
          have iv := law_q V sc se
          refine z_icmp_eq (tgt := 848) dL_law_533 (by decide) (fun _ => ?_) (fun q => absurd ev q)
          refine y_iinc dL_law_848 (by decide) rfl rfl (by omega) (by omega) lss_4_3 ?_
          refine z_goto (tgt := 18) dL_law_851 (by decide) ?_
          have K := ih (k + 1) _ _ _ (by omega) (by omega) iv
          rw [show (4 : Int) * ((k + 1 : Nat) : Int) = 4 * (k : Int) + 4 by omega] at K
          exact K
        ·
          refine z_aload_n dL_law_538 rfl (by omega) ?_
          refine z_aload_n dL_law_539 rfl hz0 ?_
          refine z_iload_n dL_law_540 rfl ?_
          refine z_iconst dL_law_541 ⟨by decide, by decide⟩ ?_
          refine y_iadd dL_law_542 (by omega) (by omega) ?_
          refine z_sld dL_law_543 (by omega) (by omega) ?_
          refine z_aload_n dL_law_544 rfl hz0 ?_
          refine z_iload_n dL_law_545 rfl ?_
          refine z_iconst dL_law_546 ⟨by decide, by decide⟩ ?_
          refine y_iadd dL_law_547 (by omega) (by omega) ?_
          refine z_sld dL_law_548 (by omega) (by omega) ?_
          refine z_callV (T := mX9_edge) (As := [_, _]) kX9_edge ml_L_73 ⟨by decide, by decide⟩ dL_law_549 rfl rfl (Nat.le_of_ble_eq_true rfl) sh_1 ⟨by decide, rfl⟩ (lB1 rfl) (lB2 rfl) (qX9_edge hg ht ht1 hc ?_)
          have ev : edgeC h t ((xs (4 * (k : Int) + 1).toNat).toInt) ((xs (4 * (k : Int) + 2).toNat).toInt) = edgeF h ((xs (4 * (k : Int) + 1).toNat).toInt) ((xs (4 * (k : Int) + 2).toNat).toInt) := eq_edge V.1 hm _ _
          have iv := law_id V
          refine z_aload_n dL_law_552 rfl (by omega) ?_
          refine z_aload_n dL_law_553 rfl hz0 ?_
          refine z_iload_n dL_law_554 rfl ?_
          refine z_iconst dL_law_555 ⟨by decide, by decide⟩ ?_
          refine y_iadd dL_law_556 (by omega) (by omega) ?_
          refine z_sld dL_law_557 (by omega) (by omega) ?_
          refine z_aload_n dL_law_558 rfl hz0 ?_
          refine z_iload_n dL_law_559 rfl ?_
          refine z_iconst dL_law_560 ⟨by decide, by decide⟩ ?_
          refine y_iadd dL_law_561 (by omega) (by omega) ?_
          refine z_sld dL_law_562 (by omega) (by omega) ?_
          refine z_callV (T := mX10_edge) (As := [_, _]) kX10_edge ml_L_76 ⟨by decide, by decide⟩ dL_law_563 rfl rfl (Nat.le_of_ble_eq_true rfl) sh_240 ⟨by decide, rfl⟩ (lB1 rfl) (lB2 rfl) (qX10_edge hg hm ?_)
          refine z_icmp_eq (tgt := 848) dL_law_566 (by decide) (fun _ => ?_) (fun q => absurd ev q)
          refine y_iinc dL_law_848 (by decide) rfl rfl (by omega) (by omega) lss_4_3 ?_
          refine z_goto (tgt := 18) dL_law_851 (by decide) ?_
          have K := ih (k + 1) _ _ _ (by omega) (by omega) iv
          rw [show (4 : Int) * ((k + 1 : Nat) : Int) = 4 * (k : Int) + 4 by omega] at K
          exact K
        ·
          refine z_aload_n dL_law_571 rfl (by omega) ?_
          refine z_aload_n dL_law_572 rfl hz0 ?_
          refine z_iload_n dL_law_573 rfl ?_
          refine z_iconst dL_law_574 ⟨by decide, by decide⟩ ?_
          refine y_iadd dL_law_575 (by omega) (by omega) ?_
          refine z_sld dL_law_576 (by omega) (by omega) ?_
          refine z_callV (T := mX9_spread) (As := [_]) kX9_spread ml_L_77 ⟨by decide, by decide⟩ dL_law_577 rfl rfl (Nat.le_of_ble_eq_true rfl) sh_1 ⟨by decide, rfl⟩ (lB1 rfl) (lB2 rfl) (qX9_spread hg ht ht1 hc ?_)
          have ev : spreadC h t ((xs (4 * (k : Int) + 1).toNat).toInt) = spreadF h ((xs (4 * (k : Int) + 1).toNat).toInt) := eq_spread V.1 hm _
          have iv := law_id V
          refine z_aload_n dL_law_580 rfl (by omega) ?_
          refine z_aload_n dL_law_581 rfl hz0 ?_
          refine z_iload_n dL_law_582 rfl ?_
          refine z_iconst dL_law_583 ⟨by decide, by decide⟩ ?_
          refine y_iadd dL_law_584 (by omega) (by omega) ?_
          refine z_sld dL_law_585 (by omega) (by omega) ?_
          refine z_callV (T := mX10_spread) (As := [_]) kX10_spread ml_L_80 ⟨by decide, by decide⟩ dL_law_586 rfl rfl (Nat.le_of_ble_eq_true rfl) sh_240 ⟨by decide, rfl⟩ (lB1 rfl) (lB2 rfl) (qX10_spread hg hm ?_)
          refine z_icmp_eq (tgt := 848) dL_law_589 (by decide) (fun _ => ?_) (fun q => absurd ev q)
          refine y_iinc dL_law_848 (by decide) rfl rfl (by omega) (by omega) lss_4_3 ?_
          refine z_goto (tgt := 18) dL_law_851 (by decide) ?_
          have K := ih (k + 1) _ _ _ (by omega) (by omega) iv
          rw [show (4 : Int) * ((k + 1 : Nat) : Int) = 4 * (k : Int) + 4 by omega] at K
          exact K
        ·
          refine z_aload_n dL_law_594 rfl (by omega) ?_
          refine z_aload_n dL_law_595 rfl hz0 ?_
          refine z_iload_n dL_law_596 rfl ?_
          refine z_iconst dL_law_597 ⟨by decide, by decide⟩ ?_
          refine y_iadd dL_law_598 (by omega) (by omega) ?_
          refine z_sld dL_law_599 (by omega) (by omega) ?_
          refine z_callV (T := mX9_pair) (As := [_]) kX9_pair ml_L_81 ⟨by decide, by decide⟩ dL_law_600 rfl rfl (Nat.le_of_ble_eq_true rfl) sh_1 ⟨by decide, rfl⟩ (lB1 rfl) (lB2 rfl) (qX9_pair hg ht ht1 hc (fun h1 sc => ?_))
          obtain ⟨R1, mb⟩ := law_q1 V sc
          have ev : pairC h t ((xs (4 * (k : Int) + 1).toNat).toInt) = pairF h1 ((xs (4 * (k : Int) + 1).toNat).toInt) := eq_pair R1 mb _
          refine z_aload_n dL_law_603 rfl (by omega) ?_
          refine z_aload_n dL_law_604 rfl hz0 ?_
          refine z_iload_n dL_law_605 rfl ?_
          refine z_iconst dL_law_606 ⟨by decide, by decide⟩ ?_
          refine y_iadd dL_law_607 (by omega) (by omega) ?_
          refine z_sld dL_law_608 (by omega) (by omega) ?_
          refine z_callV (T := mX10_pair) (As := [_]) kX10_pair ml_L_84 ⟨by decide, by decide⟩ dL_law_609 rfl rfl (Nat.le_of_ble_eq_true rfl) sh_240 ⟨by decide, rfl⟩ (lB1 rfl) (lB2 rfl) (qX10_pair2 hg mb (fun h2 se => ?_))
          have iv := law_q V sc se
          refine z_icmp_eq (tgt := 848) dL_law_612 (by decide) (fun _ => ?_) (fun q => absurd ev q)
          refine y_iinc dL_law_848 (by decide) rfl rfl (by omega) (by omega) lss_4_3 ?_
          refine z_goto (tgt := 18) dL_law_851 (by decide) ?_
          have K := ih (k + 1) _ _ _ (by omega) (by omega) iv
          rw [show (4 : Int) * ((k + 1 : Nat) : Int) = 4 * (k : Int) + 4 by omega] at K
          exact K
        ·
          refine z_aload_n dL_law_617 rfl (by omega) ?_
          refine z_aload_n dL_law_618 rfl hz0 ?_
          refine z_iload_n dL_law_619 rfl ?_
          refine z_iconst dL_law_620 ⟨by decide, by decide⟩ ?_
          refine y_iadd dL_law_621 (by omega) (by omega) ?_
          refine z_sld dL_law_622 (by omega) (by omega) ?_
          refine z_aload_n dL_law_623 rfl hz0 ?_
          refine z_iload_n dL_law_624 rfl ?_
          refine z_iconst dL_law_625 ⟨by decide, by decide⟩ ?_
          refine y_iadd dL_law_626 (by omega) (by omega) ?_
          refine z_sld dL_law_627 (by omega) (by omega) ?_
          refine z_aload_n dL_law_628 rfl hz0 ?_
          refine z_iload_n dL_law_629 rfl ?_
          refine z_iconst dL_law_630 ⟨by decide, by decide⟩ ?_
          refine y_iadd dL_law_631 (by omega) (by omega) ?_
          refine z_sld dL_law_632 (by omega) (by omega) ?_
          refine z_callV (T := mX9_odds) (As := [_, _, _]) kX9_odds ml_L_85 ⟨by decide, by decide⟩ dL_law_633 rfl rfl (Nat.le_of_ble_eq_true rfl) sh_1 ⟨by decide, rfl⟩ (lB1 rfl) (lB2 rfl) (qX9_odds hg ht ht1 hc ?_)
          have ev : oddsC h t ((xs (4 * (k : Int) + 1).toNat).toInt) ((xs (4 * (k : Int) + 2).toNat).toInt) ((xs (4 * (k : Int) + 3).toNat).toInt) = oddsF h ((xs (4 * (k : Int) + 1).toNat).toInt) ((xs (4 * (k : Int) + 2).toNat).toInt) ((xs (4 * (k : Int) + 3).toNat).toInt) := eq_odds V.1 hm _ _ _
          have iv := law_id V
          refine z_aload_n dL_law_636 rfl (by omega) ?_
          refine z_aload_n dL_law_637 rfl hz0 ?_
          refine z_iload_n dL_law_638 rfl ?_
          refine z_iconst dL_law_639 ⟨by decide, by decide⟩ ?_
          refine y_iadd dL_law_640 (by omega) (by omega) ?_
          refine z_sld dL_law_641 (by omega) (by omega) ?_
          refine z_aload_n dL_law_642 rfl hz0 ?_
          refine z_iload_n dL_law_643 rfl ?_
          refine z_iconst dL_law_644 ⟨by decide, by decide⟩ ?_
          refine y_iadd dL_law_645 (by omega) (by omega) ?_
          refine z_sld dL_law_646 (by omega) (by omega) ?_
          refine z_aload_n dL_law_647 rfl hz0 ?_
          refine z_iload_n dL_law_648 rfl ?_
          refine z_iconst dL_law_649 ⟨by decide, by decide⟩ ?_
          refine y_iadd dL_law_650 (by omega) (by omega) ?_
          refine z_sld dL_law_651 (by omega) (by omega) ?_
          refine z_callV (T := mX10_odds) (As := [_, _, _]) kX10_odds ml_L_88 ⟨by decide, by decide⟩ dL_law_652 rfl rfl (Nat.le_of_ble_eq_true rfl) sh_240 ⟨by decide, rfl⟩ (lB1 rfl) (lB2 rfl) (qX10_odds hg hm ?_)
          refine z_icmp_eq (tgt := 848) dL_law_655 (by decide) (fun _ => ?_) (fun q => absurd ev q)
          refine y_iinc dL_law_848 (by decide) rfl rfl (by omega) (by omega) lss_4_3 ?_
          refine z_goto (tgt := 18) dL_law_851 (by decide) ?_
          have K := ih (k + 1) _ _ _ (by omega) (by omega) iv
          rw [show (4 : Int) * ((k + 1 : Nat) : Int) = 4 * (k : Int) + 4 by omega] at K
          exact K
        ·
          refine z_aload_n dL_law_660 rfl (by omega) ?_
          refine z_aload_n dL_law_661 rfl hz0 ?_
          refine z_iload_n dL_law_662 rfl ?_
          refine z_iconst dL_law_663 ⟨by decide, by decide⟩ ?_
          refine y_iadd dL_law_664 (by omega) (by omega) ?_
          refine z_sld dL_law_665 (by omega) (by omega) ?_
          refine z_aload_n dL_law_666 rfl hz0 ?_
          refine z_iload_n dL_law_667 rfl ?_
          refine z_iconst dL_law_668 ⟨by decide, by decide⟩ ?_
          refine y_iadd dL_law_669 (by omega) (by omega) ?_
          refine z_sld dL_law_670 (by omega) (by omega) ?_
          refine z_callV (T := mX9_hears) (As := [_, _]) kX9_hears ml_L_89 ⟨by decide, by decide⟩ dL_law_671 rfl rfl (Nat.le_of_ble_eq_true rfl) sh_1 ⟨by decide, rfl⟩ (lB1 rfl) (lB2 rfl) (qX9_hears hg ht ht1 hc ?_)
          obtain ⟨mb, hg2, ev, iv⟩ := law_st V (by omega) (((hearsC h t ((xs (4 * (k : Int) + 1).toNat).toInt) ((xs (4 * (k : Int) + 2).toNat).toInt)).1, g, (hearsC h t ((xs (4 * (k : Int) + 1).toNat).toInt) ((xs (4 * (k : Int) + 2).toNat).toInt)).2)) (fun m => hearsR m ((xs (4 * (k : Int) + 1).toNat).toInt) ((xs (4 * (k : Int) + 2).toNat).toInt)) (fun m S => St_hears S _ _)
          replace mb : MB (((hearsC h t ((xs (4 * (k : Int) + 1).toNat).toInt) ((xs (4 * (k : Int) + 2).toNat).toInt)).1, g, (hearsC h t ((xs (4 * (k : Int) + 1).toNat).toInt) ((xs (4 * (k : Int) + 2).toNat).toInt)).2)).2.2 := mb
          refine z_aload_n dL_law_674 rfl (by omega) ?_
          refine z_aload_n dL_law_675 rfl hz0 ?_
          refine z_iload_n dL_law_676 rfl ?_
          refine z_iconst dL_law_677 ⟨by decide, by decide⟩ ?_
          refine y_iadd dL_law_678 (by omega) (by omega) ?_
          refine z_sld dL_law_679 (by omega) (by omega) ?_
          refine z_aload_n dL_law_680 rfl hz0 ?_
          refine z_iload_n dL_law_681 rfl ?_
          refine z_iconst dL_law_682 ⟨by decide, by decide⟩ ?_
          refine y_iadd dL_law_683 (by omega) (by omega) ?_
          refine z_sld dL_law_684 (by omega) (by omega) ?_
          refine z_callV (T := mX10_hears) (As := [_, _]) kX10_hears ml_L_92 ⟨by decide, by decide⟩ dL_law_685 rfl rfl (Nat.le_of_ble_eq_true rfl) sh_240 ⟨by decide, rfl⟩ (lB1 rfl) (lB2 rfl) (qX10_hears hg2 mb ?_)
          refine z_icmp_eq (tgt := 848) dL_law_688 (by decide) (fun _ => ?_) (fun q => absurd ev q)
          refine y_iinc dL_law_848 (by decide) rfl rfl (by omega) (by omega) lss_4_3 ?_
          refine z_goto (tgt := 18) dL_law_851 (by decide) ?_
          have K := ih (k + 1) _ _ _ (by omega) (by omega) iv
          rw [show (4 : Int) * ((k + 1 : Nat) : Int) = 4 * (k : Int) + 4 by omega] at K
          exact K
        ·
          refine z_aload_n dL_law_693 rfl (by omega) ?_
          refine z_callV (T := mX9_forget) (As := []) kX9_forget ml_L_93 ⟨by decide, by decide⟩ dL_law_694 rfl rfl (Nat.le_of_ble_eq_true rfl) sh_1 ⟨by decide, rfl⟩ (lB1 rfl) (lB2 rfl) (qX9_forget hg ht ht1 hc ?_)
          obtain ⟨mb, hg2, ev, iv⟩ := law_st V (by omega) ((h 93 2, g, zup h 93 2 0)) (fun m => forgetR m) (fun m S => St_forget S)
          replace mb : MB ((h 93 2, g, zup h 93 2 0)).2.2 := mb
          refine z_aload_n dL_law_697 rfl (by omega) ?_
          refine z_callV (T := mX10_forget) (As := []) kX10_forget ml_L_96 ⟨by decide, by decide⟩ dL_law_698 rfl rfl (Nat.le_of_ble_eq_true rfl) sh_240 ⟨by decide, rfl⟩ (lB1 rfl) (lB2 rfl) (qX10_forget hg2 ?_)
          refine z_icmp_eq (tgt := 848) dL_law_701 (by decide) (fun _ => ?_) (fun q => absurd ev q)
          refine y_iinc dL_law_848 (by decide) rfl rfl (by omega) (by omega) lss_4_3 ?_
          refine z_goto (tgt := 18) dL_law_851 (by decide) ?_
          have K := ih (k + 1) _ _ _ (by omega) (by omega) iv
          rw [show (4 : Int) * ((k + 1 : Nat) : Int) = 4 * (k : Int) + 4 by omega] at K
          exact K
        ·
          refine z_aload_n dL_law_706 rfl (by omega) ?_
          refine z_callV (T := mX9_who) (As := []) kX9_who ml_L_97 ⟨by decide, by decide⟩ dL_law_707 rfl rfl (Nat.le_of_ble_eq_true rfl) sh_1 ⟨by decide, rfl⟩ (lB1 rfl) (lB2 rfl) (qX9_who hg ht ht1 hc ?_)
          have ev : whoC h t = whoS h := eq_who V.1 hm
          have iv := law_id V
          refine z_aload_n dL_law_710 rfl (by omega) ?_
          refine z_callV (T := mX10_who) (As := []) kX10_who ml_L_100 ⟨by decide, by decide⟩ dL_law_711 rfl rfl (Nat.le_of_ble_eq_true rfl) sh_240 ⟨by decide, rfl⟩ (lB1 rfl) (lB2 rfl) (qX10_who hg hm ?_)
          refine z_icmp_eq (tgt := 848) dL_law_714 (by decide) (fun _ => ?_) (fun q => absurd ev q)
          refine y_iinc dL_law_848 (by decide) rfl rfl (by omega) (by omega) lss_4_3 ?_
          refine z_goto (tgt := 18) dL_law_851 (by decide) ?_
          have K := ih (k + 1) _ _ _ (by omega) (by omega) iv
          rw [show (4 : Int) * ((k + 1 : Nat) : Int) = 4 * (k : Int) + 4 by omega] at K
          exact K
        ·
          refine z_aload_n dL_law_719 rfl (by omega) ?_
          refine z_callV (T := mX9_ask) (As := []) kX9_ask ml_L_101 ⟨by decide, by decide⟩ dL_law_720 rfl rfl (Nat.le_of_ble_eq_true rfl) sh_1 ⟨by decide, rfl⟩ (lB1 rfl) (lB2 rfl) (qX9_ask hg ht ht1 hc ?_)
          have ev : (askC h t (whoC h t) (h t 1).toNat).1 = (askB h (whoS h) (h 240 1).toNat).1 := eq_askl V.1 hm
          have iv := law_id V
          refine z_aload_n dL_law_723 rfl (by omega) ?_
          refine z_callV (T := mX10_ask) (As := []) kX10_ask ml_L_104 ⟨by decide, by decide⟩ dL_law_724 rfl rfl (Nat.le_of_ble_eq_true rfl) sh_240 ⟨by decide, rfl⟩ (lB1 rfl) (lB2 rfl) (qX10_ask hg hm ?_)
          refine z_icmp_eq (tgt := 848) dL_law_727 (by decide) (fun _ => ?_) (fun q => absurd ev q)
          refine y_iinc dL_law_848 (by decide) rfl rfl (by omega) (by omega) lss_4_3 ?_
          refine z_goto (tgt := 18) dL_law_851 (by decide) ?_
          have K := ih (k + 1) _ _ _ (by omega) (by omega) iv
          rw [show (4 : Int) * ((k + 1 : Nat) : Int) = 4 * (k : Int) + 4 by omega] at K
          exact K
        ·
          refine z_aload_n dL_law_732 rfl (by omega) ?_
          refine z_aload_n dL_law_733 rfl hz0 ?_
          refine z_iload_n dL_law_734 rfl ?_
          refine z_iconst dL_law_735 ⟨by decide, by decide⟩ ?_
          refine y_iadd dL_law_736 (by omega) (by omega) ?_
          refine z_sld dL_law_737 (by omega) (by omega) ?_
          refine z_aload_n dL_law_738 rfl hz0 ?_
          refine z_iload_n dL_law_739 rfl ?_
          refine z_iconst dL_law_740 ⟨by decide, by decide⟩ ?_
          refine y_iadd dL_law_741 (by omega) (by omega) ?_
          refine z_sld dL_law_742 (by omega) (by omega) ?_
          refine z_callV (T := mX9_mark) (As := [_, _]) kX9_mark ml_L_105 ⟨by decide, by decide⟩ dL_law_743 rfl rfl (Nat.le_of_ble_eq_true rfl) sh_1 ⟨by decide, rfl⟩ (lB1 rfl) (lB2 rfl) (qX9_mark hg ht ht1 hc ?_)
          obtain ⟨mb, hg2, ev, iv⟩ := law_st V (by omega) (((markC h t ((xs (4 * (k : Int) + 1).toNat).toInt) ((xs (4 * (k : Int) + 2).toNat).toInt)).1, g, (markC h t ((xs (4 * (k : Int) + 1).toNat).toInt) ((xs (4 * (k : Int) + 2).toNat).toInt)).2)) (fun m => markR m ((xs (4 * (k : Int) + 1).toNat).toInt) ((xs (4 * (k : Int) + 2).toNat).toInt)) (fun m S => St_mark S _ _)
          replace mb : MB (((markC h t ((xs (4 * (k : Int) + 1).toNat).toInt) ((xs (4 * (k : Int) + 2).toNat).toInt)).1, g, (markC h t ((xs (4 * (k : Int) + 1).toNat).toInt) ((xs (4 * (k : Int) + 2).toNat).toInt)).2)).2.2 := mb
          refine z_aload_n dL_law_746 rfl (by omega) ?_
          refine z_aload_n dL_law_747 rfl hz0 ?_
          refine z_iload_n dL_law_748 rfl ?_
          refine z_iconst dL_law_749 ⟨by decide, by decide⟩ ?_
          refine y_iadd dL_law_750 (by omega) (by omega) ?_
          refine z_sld dL_law_751 (by omega) (by omega) ?_
          refine z_aload_n dL_law_752 rfl hz0 ?_
          refine z_iload_n dL_law_753 rfl ?_
          refine z_iconst dL_law_754 ⟨by decide, by decide⟩ ?_
          refine y_iadd dL_law_755 (by omega) (by omega) ?_
          refine z_sld dL_law_756 (by omega) (by omega) ?_
          refine z_callV (T := mX10_mark) (As := [_, _]) kX10_mark ml_L_108 ⟨by decide, by decide⟩ dL_law_757 rfl rfl (Nat.le_of_ble_eq_true rfl) sh_240 ⟨by decide, rfl⟩ (lB1 rfl) (lB2 rfl) (qX10_mark hg2 mb ?_)
          refine z_icmp_eq (tgt := 848) dL_law_760 (by decide) (fun _ => ?_) (fun q => absurd ev q)
          refine y_iinc dL_law_848 (by decide) rfl rfl (by omega) (by omega) lss_4_3 ?_
          refine z_goto (tgt := 18) dL_law_851 (by decide) ?_
          have K := ih (k + 1) _ _ _ (by omega) (by omega) iv
          rw [show (4 : Int) * ((k + 1 : Nat) : Int) = 4 * (k : Int) + 4 by omega] at K
          exact K
        ·
          refine z_aload_n dL_law_765 rfl (by omega) ?_
          refine z_aload_n dL_law_766 rfl hz0 ?_
          refine z_iload_n dL_law_767 rfl ?_
          refine z_iconst dL_law_768 ⟨by decide, by decide⟩ ?_
          refine y_iadd dL_law_769 (by omega) (by omega) ?_
          refine z_sld dL_law_770 (by omega) (by omega) ?_
          refine z_callV (T := mX9_keep) (As := [_]) kX9_keep ml_L_109 ⟨by decide, by decide⟩ dL_law_771 rfl rfl (Nat.le_of_ble_eq_true rfl) sh_1 ⟨by decide, rfl⟩ (lB1 rfl) (lB2 rfl) (qX9_keep hg ht ht1 hc H ?_)
          obtain ⟨mb, hg2, ev, iv⟩ := law_st V (by omega) (((keepC g h t ((xs (4 * (k : Int) + 1).toNat).toInt)).1, g, (keepC g h t ((xs (4 * (k : Int) + 1).toNat).toInt)).2)) (fun m => keepR m ((xs (4 * (k : Int) + 1).toNat).toInt)) (fun m S => St_keep S _)
          replace mb : MB (((keepC g h t ((xs (4 * (k : Int) + 1).toNat).toInt)).1, g, (keepC g h t ((xs (4 * (k : Int) + 1).toNat).toInt)).2)).2.2 := mb
          refine z_aload_n dL_law_774 rfl (by omega) ?_
          refine z_aload_n dL_law_775 rfl hz0 ?_
          refine z_iload_n dL_law_776 rfl ?_
          refine z_iconst dL_law_777 ⟨by decide, by decide⟩ ?_
          refine y_iadd dL_law_778 (by omega) (by omega) ?_
          refine z_sld dL_law_779 (by omega) (by omega) ?_
          refine z_callV (T := mX10_keep) (As := [_]) kX10_keep ml_L_112 ⟨by decide, by decide⟩ dL_law_780 rfl rfl (Nat.le_of_ble_eq_true rfl) sh_240 ⟨by decide, rfl⟩ (lB1 rfl) (lB2 rfl) (qX10_keep hg2 mb ?_)
          refine z_icmp_eq (tgt := 848) dL_law_783 (by decide) (fun _ => ?_) (fun q => absurd ev q)
          refine y_iinc dL_law_848 (by decide) rfl rfl (by omega) (by omega) lss_4_3 ?_
          refine z_goto (tgt := 18) dL_law_851 (by decide) ?_
          have K := ih (k + 1) _ _ _ (by omega) (by omega) iv
          rw [show (4 : Int) * ((k + 1 : Nat) : Int) = 4 * (k : Int) + 4 by omega] at K
          exact K
        ·
          refine z_aload_n dL_law_788 rfl (by omega) ?_
          refine z_aload_n dL_law_789 rfl hz0 ?_
          refine z_iload_n dL_law_790 rfl ?_
          refine z_iconst dL_law_791 ⟨by decide, by decide⟩ ?_
          refine y_iadd dL_law_792 (by omega) (by omega) ?_
          refine z_sld dL_law_793 (by omega) (by omega) ?_
          refine z_callV (T := mX9_back) (As := [_]) kX9_back ml_L_113 ⟨by decide, by decide⟩ dL_law_794 rfl rfl (Nat.le_of_ble_eq_true rfl) sh_1 ⟨by decide, rfl⟩ (lB1 rfl) (lB2 rfl) (qX9_back2 hg ht ht1 hc H (fun j0 j1 z => back_hk V j0 j1 z) ?_)
          obtain ⟨mb, hg2, ev, iv⟩ := law_st V (by omega) (((backC g h t ((xs (4 * (k : Int) + 1).toNat).toInt)).1, g, (backC g h t ((xs (4 * (k : Int) + 1).toNat).toInt)).2)) (fun m => backR m ((xs (4 * (k : Int) + 1).toNat).toInt)) (fun m S => St_back S _)
          replace mb : MB (((backC g h t ((xs (4 * (k : Int) + 1).toNat).toInt)).1, g, (backC g h t ((xs (4 * (k : Int) + 1).toNat).toInt)).2)).2.2 := mb
          refine z_aload_n dL_law_797 rfl (by omega) ?_
          refine z_aload_n dL_law_798 rfl hz0 ?_
          refine z_iload_n dL_law_799 rfl ?_
          refine z_iconst dL_law_800 ⟨by decide, by decide⟩ ?_
          refine y_iadd dL_law_801 (by omega) (by omega) ?_
          refine z_sld dL_law_802 (by omega) (by omega) ?_
          refine z_callV (T := mX10_back) (As := [_]) kX10_back ml_L_116 ⟨by decide, by decide⟩ dL_law_803 rfl rfl (Nat.le_of_ble_eq_true rfl) sh_240 ⟨by decide, rfl⟩ (lB1 rfl) (lB2 rfl) (qX10_back hg2 mb ?_)
          refine z_icmp_eq (tgt := 848) dL_law_806 (by decide) (fun _ => ?_) (fun q => absurd ev q)
          refine y_iinc dL_law_848 (by decide) rfl rfl (by omega) (by omega) lss_4_3 ?_
          refine z_goto (tgt := 18) dL_law_851 (by decide) ?_
          have K := ih (k + 1) _ _ _ (by omega) (by omega) iv
          rw [show (4 : Int) * ((k + 1 : Nat) : Int) = 4 * (k : Int) + 4 by omega] at K
          exact K
        ·
          refine z_aload_n dL_law_811 rfl (by omega) ?_
          refine z_aload_n dL_law_812 rfl hz0 ?_
          refine z_iload_n dL_law_813 rfl ?_
          refine z_iconst dL_law_814 ⟨by decide, by decide⟩ ?_
          refine y_iadd dL_law_815 (by omega) (by omega) ?_
          refine z_sld dL_law_816 (by omega) (by omega) ?_
          refine z_callV (T := mX9_count) (As := [_]) kX9_count ml_L_117 ⟨by decide, by decide⟩ dL_law_817 rfl rfl (Nat.le_of_ble_eq_true rfl) sh_1 ⟨by decide, rfl⟩ (lB1 rfl) (lB2 rfl) (qX9_count hg ht ht1 hc ?_)
          have ev : countC h t ((xs (4 * (k : Int) + 1).toNat).toInt) = countF h ((xs (4 * (k : Int) + 1).toNat).toInt) := eq_count V.1 _
          have iv := law_id V
          refine z_aload_n dL_law_820 rfl (by omega) ?_
          refine z_aload_n dL_law_821 rfl hz0 ?_
          refine z_iload_n dL_law_822 rfl ?_
          refine z_iconst dL_law_823 ⟨by decide, by decide⟩ ?_
          refine y_iadd dL_law_824 (by omega) (by omega) ?_
          refine z_sld dL_law_825 (by omega) (by omega) ?_
          refine z_callV (T := mX10_count) (As := [_]) kX10_count ml_L_120 ⟨by decide, by decide⟩ dL_law_826 rfl rfl (Nat.le_of_ble_eq_true rfl) sh_240 ⟨by decide, rfl⟩ (lB1 rfl) (lB2 rfl) (qX10_count hg ?_)
          refine z_icmp_eq (tgt := 848) dL_law_829 (by decide) (fun _ => ?_) (fun q => absurd ev q)
          refine y_iinc dL_law_848 (by decide) rfl rfl (by omega) (by omega) lss_4_3 ?_
          refine z_goto (tgt := 18) dL_law_851 (by decide) ?_
          have K := ih (k + 1) _ _ _ (by omega) (by omega) iv
          rw [show (4 : Int) * ((k + 1 : Nat) : Int) = 4 * (k : Int) + 4 by omega] at K
          exact K
        ·
          refine z_aload_n dL_law_834 rfl (by omega) ?_
          refine z_callV (T := mX9_trace) (As := []) kX9_trace ml_L_121 ⟨by decide, by decide⟩ dL_law_835 rfl rfl (Nat.le_of_ble_eq_true rfl) sh_1 ⟨by decide, rfl⟩ (lB1 rfl) (lB2 rfl) (qX9_trace hg ht ht1 hc ?_)
          have ev : zcmp (h 1 9) (h 240 14) = 0 := zcmp_z V.1.2.2.2.2.2.1
          have iv := law_id V
          refine z_aload_n dL_law_838 rfl (by omega) ?_
          refine z_callV (T := mX10_trace) (As := []) kX10_trace ml_L_125 ⟨by decide, by decide⟩ dL_law_839 rfl rfl (Nat.le_of_ble_eq_true rfl) sh_240 ⟨by decide, rfl⟩ (lB1 rfl) (lB2 rfl) (qX10_trace hg ?_)
          refine z_lcmp dL_law_842 ?_
          refine z_if_eq (tgt := 848) dL_law_843 (by decide) (fun _ => ?_) (fun q => absurd ev q)
          refine y_iinc dL_law_848 (by decide) rfl rfl (by omega) (by omega) lss_4_3 ?_
          refine z_goto (tgt := 18) dL_law_851 (by decide) ?_
          have K := ih (k + 1) _ _ _ (by omega) (by omega) iv
          rw [show (4 : Int) * ((k + 1 : Nat) : Int) = 4 * (k : Int) + 4 by omega] at K
          exact K
