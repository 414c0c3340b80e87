/-! The class: its items are read. -/
theorem qX4_tellNothing {l : Launch} {g h F : zH} {Q : zQt} {s a p k v f : Int} (hg : zGd g) (hs : s = 4 ∨ s = 14) (hQ : Q none (SHL, g) (PH h s (tn F) a p k v f)) : zC l mX4_tellNothing [zr s] (SHL, g) (PH h s F a p k v f) Q := by
  refine z_method kX4_tellNothing.1 rfl (Nat.le_of_ble_eq_true rfl) (fun hok hh => ?_)
  obtain ⟨ss0, ss1, ss2, ss3, ss4, ss5, ss6, ss7, ss8, ss9, sg4, sg5, sg6, sg7, sg8, sg9, sg10, sg11, sg12⟩ := houseF hg hs
  refine z_aload_n dX4_tellNothing_0 rfl (by omega) ?_
  refine z_iconst dX4_tellNothing_1 ⟨by decide, by decide⟩ ?_
  refine y_puti (k' := 0) fl_X4_9 rfl dX4_tellNothing_2 ss0 (by decide)  ?_
  rw [PH_ws hs]
  refine z_aload_n dX4_tellNothing_5 rfl (by omega) ?_
  refine z_iconst dX4_tellNothing_6 ⟨by decide, by decide⟩ ?_
  refine y_puti (k' := 1) fl_X4_43 rfl dX4_tellNothing_7 ss0 (by decide)  ?_
  rw [PH_ws hs]
  refine z_aload_n dX4_tellNothing_10 rfl (by omega) ?_
  refine z_iconst dX4_tellNothing_11 ⟨by decide, by decide⟩ ?_
  refine y_puti (k' := 2) fl_X4_46 rfl dX4_tellNothing_12 ss0 (by decide)  ?_
  rw [PH_ws hs]
  refine z_aload_n dX4_tellNothing_15 rfl (by omega) ?_
  refine z_iconst dX4_tellNothing_16 ⟨by decide, by decide⟩ ?_
  refine y_puti (k' := 3) fl_X4_49 rfl dX4_tellNothing_17 ss0 (by decide)  ?_
  rw [PH_ws hs]
  refine z_ret (v := none) dX4_tellNothing_20 trivial (Nat.add_zero _).symm (Nat.add_zero _).symm rfl ?_
  exact hQ
theorem qX4_addPath {l : Launch} {g h F : zH} {Q : zQt} {s a p k v f : Int} (hg : zGd g) (hs : s = 4 ∨ s = 14) {x y z : Int} (n0 : 0 ≤ F 0 1) (n1 : F 0 1 < 9) (hQ : Q none (SHL, g) (PH h s (zup (zup (zup (zup F 1 (F 0 1) x) 2 (F 0 1) y) 3 (F 0 1) z) 0 1 (F 0 1 + 1)) a p k v f)) : zC l mX4_addPath [zr s, zi x, zi y, zi z] (SHL, g) (PH h s F a p k v f) Q := by
  refine z_method kX4_addPath.1 rfl (Nat.le_of_ble_eq_true rfl) (fun hok hh => ?_)
  obtain ⟨ss0, ss1, ss2, ss3, ss4, ss5, ss6, ss7, ss8, ss9, sg4, sg5, sg6, sg7, sg8, sg9, sg10, sg11, sg12⟩ := houseF hg hs
  refine z_aload_n dX4_addPath_0 rfl (by omega) ?_
  refine y_geti (k' := 1) fl_X4_43 rfl dX4_addPath_1 ss0 (by decide) (PH_s hs) ?_
  refine z_bipush dX4_addPath_4 ⟨by decide, by decide⟩ ?_
  refine z_icmp_ge (tgt := 49) dX4_addPath_6 (by decide) (fun q => False.elim (by omega)) (fun _ => ?_)
  refine z_aload_n dX4_addPath_9 rfl (by omega) ?_
  refine y_geta (k' := 4) fl_X4_15 rfl dX4_addPath_10 ss0 (by decide) sg4 ?_
  refine z_aload_n dX4_addPath_13 rfl (by omega) ?_
  refine y_geti (k' := 1) fl_X4_43 rfl dX4_addPath_14 ss0 (by decide) (PH_s hs) ?_
  refine z_iload_n dX4_addPath_17 rfl ?_
  refine z_iastore dX4_addPath_18 ss1 (by omega) (by omega) ?_
  rw [PH_wF hs (by decide) (by decide)]
  refine z_aload_n dX4_addPath_19 rfl (by omega) ?_
  refine y_geta (k' := 5) fl_X4_19 rfl dX4_addPath_20 ss0 (by decide) sg5 ?_
  refine z_aload_n dX4_addPath_23 rfl (by omega) ?_
  refine y_geti (k' := 1) fl_X4_43 rfl dX4_addPath_24 ss0 (by decide) ((PH_s hs).trans (zup_ne (by omega))) ?_
  refine z_iload_n dX4_addPath_27 rfl ?_
  refine z_iastore dX4_addPath_28 ss2 (by omega) (by omega) ?_
  rw [PH_wF hs (by decide) (by decide)]
  refine z_aload_n dX4_addPath_29 rfl (by omega) ?_
  refine y_geta (k' := 6) fl_X4_22 rfl dX4_addPath_30 ss0 (by decide) sg6 ?_
  refine z_aload_n dX4_addPath_33 rfl (by omega) ?_
  refine y_geti (k' := 1) fl_X4_43 rfl dX4_addPath_34 ss0 (by decide) ((PH_s hs).trans ((zup_ne (by omega)).trans (zup_ne (by omega)))) ?_
  refine z_iload_n dX4_addPath_37 rfl ?_
  refine z_iastore dX4_addPath_38 ss3 (by omega) (by omega) ?_
  rw [PH_wF hs (by decide) (by decide)]
  refine z_aload_n dX4_addPath_39 rfl (by omega) ?_
  refine z_dup dX4_addPath_40 rfl ?_
  refine y_geti (k' := 1) fl_X4_43 rfl dX4_addPath_41 ss0 (by decide) ((PH_s hs).trans ((zup_ne (by omega)).trans ((zup_ne (by omega)).trans (zup_ne (by omega))))) ?_
  refine z_iconst dX4_addPath_44 ⟨by decide, by decide⟩ ?_
  refine y_iadd dX4_addPath_45 (by omega) (by omega) ?_
  refine y_puti (k' := 1) fl_X4_43 rfl dX4_addPath_46 ss0 (by decide)  ?_
  rw [PH_ws hs]
  refine z_ret (v := none) dX4_addPath_49 trivial (Nat.add_zero _).symm (Nat.add_zero _).symm rfl ?_
  exact hQ
theorem qX4_addDirector {l : Launch} {g h F : zH} {Q : zQt} {s a p k v f : Int} (hg : zGd g) (hs : s = 4 ∨ s = 14) {x y z u : Int} (n0 : 0 ≤ F 0 2) (n1 : F 0 2 < 6) (hQ : Q none (SHL, g) (PH h s (zup (zup (zup (zup (zup (zup F 4 (F 0 2) x) 5 (F 0 2) y) 6 (F 0 2) z) 7 (F 0 2) u) 8 (F 0 2) 0) 0 2 (F 0 2 + 1)) a p k v f)) : zC l mX4_addDirector [zr s, zi x, zi y, zi z, zi u] (SHL, g) (PH h s F a p k v f) Q := by
  refine z_method kX4_addDirector.1 rfl (Nat.le_of_ble_eq_true rfl) (fun hok hh => ?_)
  obtain ⟨ss0, ss1, ss2, ss3, ss4, ss5, ss6, ss7, ss8, ss9, sg4, sg5, sg6, sg7, sg8, sg9, sg10, sg11, sg12⟩ := houseF hg hs
  refine z_aload_n dX4_addDirector_0 rfl (by omega) ?_
  refine y_geti (k' := 2) fl_X4_46 rfl dX4_addDirector_1 ss0 (by decide) (PH_s hs) ?_
  refine z_bipush dX4_addDirector_4 ⟨by decide, by decide⟩ ?_
  refine z_icmp_ge (tgt := 70) dX4_addDirector_6 (by decide) (fun q => False.elim (by omega)) (fun _ => ?_)
  refine z_aload_n dX4_addDirector_9 rfl (by omega) ?_
  refine y_geta (k' := 7) fl_X4_25 rfl dX4_addDirector_10 ss0 (by decide) sg7 ?_
  refine z_aload_n dX4_addDirector_13 rfl (by omega) ?_
  refine y_geti (k' := 2) fl_X4_46 rfl dX4_addDirector_14 ss0 (by decide) (PH_s hs) ?_
  refine z_iload_n dX4_addDirector_17 rfl ?_
  refine z_iastore dX4_addDirector_18 ss4 (by omega) (by omega) ?_
  rw [PH_wF hs (by decide) (by decide)]
  refine z_aload_n dX4_addDirector_19 rfl (by omega) ?_
  refine y_geta (k' := 8) fl_X4_28 rfl dX4_addDirector_20 ss0 (by decide) sg8 ?_
  refine z_aload_n dX4_addDirector_23 rfl (by omega) ?_
  refine y_geti (k' := 2) fl_X4_46 rfl dX4_addDirector_24 ss0 (by decide) ((PH_s hs).trans (zup_ne (by omega))) ?_
  refine z_iload_n dX4_addDirector_27 rfl ?_
  refine z_iastore dX4_addDirector_28 ss5 (by omega) (by omega) ?_
  rw [PH_wF hs (by decide) (by decide)]
  refine z_aload_n dX4_addDirector_29 rfl (by omega) ?_
  refine y_geta (k' := 9) fl_X4_31 rfl dX4_addDirector_30 ss0 (by decide) sg9 ?_
  refine z_aload_n dX4_addDirector_33 rfl (by omega) ?_
  refine y_geti (k' := 2) fl_X4_46 rfl dX4_addDirector_34 ss0 (by decide) ((PH_s hs).trans ((zup_ne (by omega)).trans (zup_ne (by omega)))) ?_
  refine z_iload_n dX4_addDirector_37 rfl ?_
  refine z_iastore dX4_addDirector_38 ss6 (by omega) (by omega) ?_
  rw [PH_wF hs (by decide) (by decide)]
  refine z_aload_n dX4_addDirector_39 rfl (by omega) ?_
  refine y_geta (k' := 10) fl_X4_34 rfl dX4_addDirector_40 ss0 (by decide) sg10 ?_
  refine z_aload_n dX4_addDirector_43 rfl (by omega) ?_
  refine y_geti (k' := 2) fl_X4_46 rfl dX4_addDirector_44 ss0 (by decide) ((PH_s hs).trans ((zup_ne (by omega)).trans ((zup_ne (by omega)).trans (zup_ne (by omega))))) ?_
  refine z_iload dX4_addDirector_47 rfl ?_
  refine z_iastore dX4_addDirector_49 ss7 (by omega) (by omega) ?_
  rw [PH_wF hs (by decide) (by decide)]
  refine z_aload_n dX4_addDirector_50 rfl (by omega) ?_
  refine y_geta (k' := 11) fl_X4_37 rfl dX4_addDirector_51 ss0 (by decide) sg11 ?_
  refine z_aload_n dX4_addDirector_54 rfl (by omega) ?_
  refine y_geti (k' := 2) fl_X4_46 rfl dX4_addDirector_55 ss0 (by decide) ((PH_s hs).trans ((zup_ne (by omega)).trans ((zup_ne (by omega)).trans ((zup_ne (by omega)).trans (zup_ne (by omega)))))) ?_
  refine z_iconst dX4_addDirector_58 ⟨by decide, by decide⟩ ?_
  refine z_iastore dX4_addDirector_59 ss8 (by omega) (by omega) ?_
  rw [PH_wF hs (by decide) (by decide)]
  refine z_aload_n dX4_addDirector_60 rfl (by omega) ?_
  refine z_dup dX4_addDirector_61 rfl ?_
  refine y_geti (k' := 2) fl_X4_46 rfl dX4_addDirector_62 ss0 (by decide) ((PH_s hs).trans ((zup_ne (by omega)).trans ((zup_ne (by omega)).trans ((zup_ne (by omega)).trans ((zup_ne (by omega)).trans (zup_ne (by omega))))))) ?_
  refine z_iconst dX4_addDirector_65 ⟨by decide, by decide⟩ ?_
  refine y_iadd dX4_addDirector_66 (by omega) (by omega) ?_
  refine y_puti (k' := 2) fl_X4_46 rfl dX4_addDirector_67 ss0 (by decide)  ?_
  rw [PH_ws hs]
  refine z_ret (v := none) dX4_addDirector_70 trivial (Nat.add_zero _).symm (Nat.add_zero _).symm rfl ?_
  exact hQ
theorem qX4_addChild {l : Launch} {g h F : zH} {Q : zQt} {s a p k v f : Int} (hg : zGd g) (hs : s = 4 ∨ s = 14) {x : Int} (n0 : 0 ≤ F 0 3) (n1 : F 0 3 < 4) (hQ : Q none (SHL, g) (PH h s (zup (zup F 9 (F 0 3) x) 0 3 (F 0 3 + 1)) a p k v f)) : zC l mX4_addChild [zr s, zi x] (SHL, g) (PH h s F a p k v f) Q := by
  refine z_method kX4_addChild.1 rfl (Nat.le_of_ble_eq_true rfl) (fun hok hh => ?_)
  obtain ⟨ss0, ss1, ss2, ss3, ss4, ss5, ss6, ss7, ss8, ss9, sg4, sg5, sg6, sg7, sg8, sg9, sg10, sg11, sg12⟩ := houseF hg hs
  refine z_aload_n dX4_addChild_0 rfl (by omega) ?_
  refine y_geti (k' := 3) fl_X4_49 rfl dX4_addChild_1 ss0 (by decide) (PH_s hs) ?_
  refine z_iconst dX4_addChild_4 ⟨by decide, by decide⟩ ?_
  refine z_icmp_ge (tgt := 28) dX4_addChild_5 (by decide) (fun q => False.elim (by omega)) (fun _ => ?_)
  refine z_aload_n dX4_addChild_8 rfl (by omega) ?_
  refine y_geta (k' := 12) fl_X4_40 rfl dX4_addChild_9 ss0 (by decide) sg12 ?_
  refine z_aload_n dX4_addChild_12 rfl (by omega) ?_
  refine y_geti (k' := 3) fl_X4_49 rfl dX4_addChild_13 ss0 (by decide) (PH_s hs) ?_
  refine z_iload_n dX4_addChild_16 rfl ?_
  refine z_iastore dX4_addChild_17 ss9 (by omega) (by omega) ?_
  rw [PH_wF hs (by decide) (by decide)]
  refine z_aload_n dX4_addChild_18 rfl (by omega) ?_
  refine z_dup dX4_addChild_19 rfl ?_
  refine y_geti (k' := 3) fl_X4_49 rfl dX4_addChild_20 ss0 (by decide) ((PH_s hs).trans (zup_ne (by omega))) ?_
  refine z_iconst dX4_addChild_23 ⟨by decide, by decide⟩ ?_
  refine y_iadd dX4_addChild_24 (by omega) (by omega) ?_
  refine y_puti (k' := 3) fl_X4_49 rfl dX4_addChild_25 ss0 (by decide)  ?_
  rw [PH_ws hs]
  refine z_ret (v := none) dX4_addChild_28 trivial (Nat.add_zero _).symm (Nat.add_zero _).symm rfl ?_
  exact hQ
theorem qX4_addFriends {l : Launch} {g h F : zH} {Q : zQt} {s a p k v f : Int} (hg : zGd g) (hs : s = 4 ∨ s = 14) {x y : Int} (d2 : F 0 2 ≤ 6) (x0 : 0 ≤ x) (x1 : x < F 0 2) (y0 : 0 ≤ y) (y1 : y < F 0 2) (xy : ¬ x = y) (hQ : Q none (SHL, g) (PH h s (zup (zup F 8 x (bor (F 8 x) (bshl 1 y))) 8 y (bor (F 8 y) (bshl 1 x))) a p k v f)) : zC l mX4_addFriends [zr s, zi x, zi y] (SHL, g) (PH h s F a p k v f) Q := by
  refine z_method kX4_addFriends.1 rfl (Nat.le_of_ble_eq_true rfl) (fun hok hh => ?_)
  obtain ⟨ss0, ss1, ss2, ss3, ss4, ss5, ss6, ss7, ss8, ss9, sg4, sg5, sg6, sg7, sg8, sg9, sg10, sg11, sg12⟩ := houseF hg hs
  refine z_aload_n dX4_addFriends_0 rfl (by omega) ?_
  refine z_iload_n dX4_addFriends_1 rfl ?_
  refine z_callV (T := mX4_hasDirector) (As := [_]) kX4_hasDirector ml_X4_52 ⟨by decide, by decide⟩ dX4_addFriends_2 rfl rfl (Nat.le_of_ble_eq_true rfl) ss0 ⟨by decide, rfl⟩ (Nat.le_refl _) (Nat.le_refl _) (qX4_hasDirector hg hs (fun b2 => ?_) (fun b2 => ?_))
  ·
    refine z_if_eq (tgt := 40) dX4_addFriends_5 (by decide) (fun q => False.elim (by omega)) (fun _ => ?_)
    refine z_aload_n dX4_addFriends_8 rfl (by omega) ?_
    refine z_iload_n dX4_addFriends_9 rfl ?_
    refine z_callV (T := mX4_hasDirector) (As := [_]) kX4_hasDirector ml_X4_52 ⟨by decide, by decide⟩ dX4_addFriends_10 rfl rfl (Nat.le_of_ble_eq_true rfl) ss0 ⟨by decide, rfl⟩ (Nat.le_refl _) (Nat.le_refl _) (qX4_hasDirector hg hs (fun b10 => ?_) (fun b10 => ?_))
    ·
      refine z_if_eq (tgt := 40) dX4_addFriends_13 (by decide) (fun q => False.elim (by omega)) (fun _ => ?_)
      refine z_aload_n dX4_addFriends_16 rfl (by omega) ?_
      refine y_geta (k' := 11) fl_X4_37 rfl dX4_addFriends_17 ss0 (by decide) sg11 ?_
      refine z_iload_n dX4_addFriends_20 rfl ?_
      refine z_dup2 dX4_addFriends_21 rfl rfl ?_
      refine z_iaload dX4_addFriends_22 ss8 (by omega) (by omega) (PH_F hs (by decide) (by decide)) ?_
      refine z_iconst dX4_addFriends_23 ⟨by decide, by decide⟩ ?_
      refine z_iload_n dX4_addFriends_24 rfl ?_
      refine z_ishl dX4_addFriends_25 ?_
      refine z_ior dX4_addFriends_26 ?_
      refine z_iastore dX4_addFriends_27 ss8 (by omega) (by omega) ?_
      rw [PH_wF hs (by decide) (by decide)]
      refine z_aload_n dX4_addFriends_28 rfl (by omega) ?_
      refine y_geta (k' := 11) fl_X4_37 rfl dX4_addFriends_29 ss0 (by decide) sg11 ?_
      refine z_iload_n dX4_addFriends_32 rfl ?_
      refine z_dup2 dX4_addFriends_33 rfl rfl ?_
      refine z_iaload dX4_addFriends_34 ss8 (by omega) (by omega) ((PH_F hs (by decide) (by decide)).trans (zup_ne (by omega))) ?_
      refine z_iconst dX4_addFriends_35 ⟨by decide, by decide⟩ ?_
      refine z_iload_n dX4_addFriends_36 rfl ?_
      refine z_ishl dX4_addFriends_37 ?_
      refine z_ior dX4_addFriends_38 ?_
      refine z_iastore dX4_addFriends_39 ss8 (by omega) (by omega) ?_
      rw [PH_wF hs (by decide) (by decide)]
      refine z_ret (v := none) dX4_addFriends_40 trivial (Nat.add_zero _).symm (Nat.add_zero _).symm rfl ?_
      exact hQ
    ·
      exact absurd ⟨y0, by rw [PH_s hs]; exact y1⟩ b10
  ·
    exact absurd ⟨x0, by rw [PH_s hs]; exact x1⟩ b2
theorem qX7_readPath {l : Launch} {g h F : zH} {Q : zQt} {s a p k v : Int} (hg : zGd g) (hs : s = 4 ∨ s = 14) (hL : 0 ≤ h 2 1 ∧ h 2 1 ≤ 150) (hT : ∀ i, 0 ≤ i → i < h 2 1 → 0 ≤ h 3 i ∧ h 3 i ≤ 255) (hF : FO F) (a0 : 0 ≤ a) (a1 : a ≤ h 2 1) (p0 : 0 ≤ p) (h0 : ∀ a' k' v', ¬ (itP F (h 3) (h 2 1) a p).1 = -9 → Q none (SHL, g) (PH h s F a' (itP F (h 3) (h 2 1) a p).1 k' v' 1)) (h1 : ∀ p' k' v', (itP F (h 3) (h 2 1) a p).1 = -9 → Q none (SHL, g) (PH h s (itP F (h 3) (h 2 1) a p).2.1 (itP F (h 3) (h 2 1) a p).2.2 p' k' v' 0)) : zC l mX7_readPath [zr 2, zr s] (SHL, g) (PH h s F a p k v 0) Q := by
  refine z_method kX7_readPath.1 rfl (Nat.le_of_ble_eq_true rfl) (fun hok hh => ?_)
  obtain ⟨ss0, ss1, ss2, ss3, ss4, ss5, ss6, ss7, ss8, ss9, sg4, sg5, sg6, sg7, sg8, sg9, sg10, sg11, sg12⟩ := houseF hg hs
  obtain ⟨⟨f0, f1, f2, f3⟩, fp, fd, fc⟩ := id hF
  have u1 := ks_r (X := h 3) a1
  have w1 := ke_r (X := h 3) a1
  have u2 := ks_r (X := h 3) w1.2
  have w2 := ke_r (X := h 3) w1.2
  have u3 := ks_r (X := h 3) w2.2
  have w3 := ke_r (X := h 3) w2.2
  have u4 := ks_r (X := h 3) w3.2
  have w4 := ke_r (X := h 3) w3.2
  refine z_aload_n dX7_readPath_0 rfl (by omega) ?_
  refine z_aload_n dX7_readPath_1 rfl (by omega) ?_
  refine y_geti (k' := 1) fl_X7_73 rfl dX7_readPath_2 ss0 (by decide) (PH_s hs) ?_
  refine z_bipush dX7_readPath_5 ⟨by decide, by decide⟩ ?_
  refine z_icmp_lt (tgt := 14) dX7_readPath_7 (by decide) (fun c7 => ?_) (fun c7 => ?_)
  ·
    refine z_iconst dX7_readPath_14 ⟨by decide, by decide⟩ ?_
    refine y_putz (k' := 6) fl_X7_27 rfl dX7_readPath_15 sh_2 (by decide) (by omega) ?_
    rw [PH_w6]
    refine z_aload_n dX7_readPath_18 rfl (by omega) ?_
    refine z_iconst dX7_readPath_19 ⟨by decide, by decide⟩ ?_
    refine z_aload_n dX7_readPath_20 rfl (by omega) ?_
    refine y_geti (k' := 0) fl_X7_70 rfl dX7_readPath_21 ss0 (by decide) (PH_s hs) ?_
    refine z_iconst dX7_readPath_24 ⟨by decide, by decide⟩ ?_
    refine y_isub dX7_readPath_25 (by omega) (by omega) ?_
    refine z_callV (T := mX7_readNumber) (As := [_, _]) kX7_readNumber ml_X7_63 ⟨by decide, by decide⟩ dX7_readPath_26 rfl rfl (Nat.le_of_ble_eq_true rfl) sh_2 ⟨by decide, rfl⟩ (Nat.le_refl _) (Nat.le_refl _) (qX7_readNumber hg hs hL hT (by omega) (by omega) (by omega) (by omega) (fun k0 v0 n0 => ?_) (fun k0 v0 n0 => ?_))
    ·
      refine z_istore_n dX7_readPath_29 (by decide) rfl lss_5_2 ?_
      refine z_aload_n dX7_readPath_30 rfl (by omega) ?_
      refine z_iconst dX7_readPath_31 ⟨by decide, by decide⟩ ?_
      refine z_aload_n dX7_readPath_32 rfl (by omega) ?_
      refine y_geti (k' := 0) fl_X7_70 rfl dX7_readPath_33 ss0 (by decide) (PH_s hs) ?_
      refine z_iconst dX7_readPath_36 ⟨by decide, by decide⟩ ?_
      refine y_isub dX7_readPath_37 (by omega) (by omega) ?_
      refine z_callV (T := mX7_readNumber) (As := [_, _]) kX7_readNumber ml_X7_63 ⟨by decide, by decide⟩ dX7_readPath_38 rfl rfl (Nat.le_of_ble_eq_true rfl) sh_2 ⟨by decide, rfl⟩ (Nat.le_refl _) (Nat.le_refl _) (qX7_readNumber hg hs hL hT (by omega) (by omega) (by omega) (by omega) (fun k1 v1 n1 => ?_) (fun k1 v1 n1 => ?_))
      ·
        refine z_istore_n dX7_readPath_41 (by decide) rfl lss_5_3 ?_
        refine z_aload_n dX7_readPath_42 rfl (by omega) ?_
        refine z_iload_n dX7_readPath_43 rfl ?_
        refine z_iload_n dX7_readPath_44 rfl ?_
        refine z_callV (T := mX7_refuseAlike) (As := [_, _]) kX7_refuseAlike ml_X7_76 ⟨by decide, by decide⟩ dX7_readPath_45 rfl rfl (Nat.le_of_ble_eq_true rfl) sh_2 ⟨by decide, rfl⟩ (Nat.le_refl _) (Nat.le_refl _) (qX7_refuseAlike hg hs (fun n2 => ?_) (fun n2 => ?_))
        ·
          refine z_aload_n dX7_readPath_48 rfl (by omega) ?_
          refine z_iconst dX7_readPath_49 ⟨by decide, by decide⟩ ?_
          refine z_bipush dX7_readPath_50 ⟨by decide, by decide⟩ ?_
          refine z_callV (T := mX7_readNumber) (As := [_, _]) kX7_readNumber ml_X7_63 ⟨by decide, by decide⟩ dX7_readPath_52 rfl rfl (Nat.le_of_ble_eq_true rfl) sh_2 ⟨by decide, rfl⟩ (Nat.le_refl _) (Nat.le_refl _) (qX7_readNumber_f hg hs ?_)
          refine z_istore dX7_readPath_55 (by decide) rfl lss_5_4 ?_
          refine z_aload_n dX7_readPath_57 rfl (by omega) ?_
          refine z_callV (T := mX7_readStop) (As := []) kX7_readStop ml_X7_67 ⟨by decide, by decide⟩ dX7_readPath_58 rfl rfl (Nat.le_of_ble_eq_true rfl) sh_2 ⟨by decide, rfl⟩ (Nat.le_refl _) (Nat.le_refl _) (qX7_readStop_f hg hs ?_)
          refine z_aload_n dX7_readPath_61 rfl (by omega) ?_
          refine y_getz (k' := 6) fl_X7_27 rfl dX7_readPath_62 sh_2 (by decide) PH_r6 ?_
          refine z_if_ne (tgt := 76) dX7_readPath_65 (by decide) (fun _ => ?_) (fun q => False.elim (by omega))
          refine z_ret (v := none) dX7_readPath_76 trivial (Nat.add_zero _).symm (Nat.add_zero _).symm rfl ?_
          unfold itP at h0
          rw [if_neg (by omega), if_neg (fun z => z n0), if_neg (fun z => z n1), if_pos n2] at h0
          exact h0 _ _ _ (fun z => by have z2 : ks (h 3) (h 2 1) (ke (h 3) (h 2 1) a) = -9 := z; omega)
        ·
          refine z_aload_n dX7_readPath_48 rfl (by omega) ?_
          refine z_iconst dX7_readPath_49 ⟨by decide, by decide⟩ ?_
          refine z_bipush dX7_readPath_50 ⟨by decide, by decide⟩ ?_
          refine z_callV (T := mX7_readNumber) (As := [_, _]) kX7_readNumber ml_X7_63 ⟨by decide, by decide⟩ dX7_readPath_52 rfl rfl (Nat.le_of_ble_eq_true rfl) sh_2 ⟨by decide, rfl⟩ (Nat.le_refl _) (Nat.le_refl _) (qX7_readNumber hg hs hL hT (by omega) (by omega) (by omega) (by omega) (fun k3 v3 n3 => ?_) (fun k3 v3 n3 => ?_))
          ·
            refine z_istore dX7_readPath_55 (by decide) rfl lss_5_4 ?_
            refine z_aload_n dX7_readPath_57 rfl (by omega) ?_
            refine z_callV (T := mX7_readStop) (As := []) kX7_readStop ml_X7_67 ⟨by decide, by decide⟩ dX7_readPath_58 rfl rfl (Nat.le_of_ble_eq_true rfl) sh_2 ⟨by decide, rfl⟩ (Nat.le_refl _) (Nat.le_refl _) (qX7_readStop hg hs hL hT (by omega) (by omega) (fun k4 v4 n4 => ?_) (fun k4 v4 n4 => ?_))
            ·
              refine z_aload_n dX7_readPath_61 rfl (by omega) ?_
              refine y_getz (k' := 6) fl_X7_27 rfl dX7_readPath_62 sh_2 (by decide) PH_r6 ?_
              refine z_if_ne (tgt := 76) dX7_readPath_65 (by decide) (fun q => False.elim (by omega)) (fun _ => ?_)
              refine z_aload_n dX7_readPath_68 rfl (by omega) ?_
              refine z_iload_n dX7_readPath_69 rfl ?_
              refine z_iload_n dX7_readPath_70 rfl ?_
              refine z_iload dX7_readPath_71 rfl ?_
              refine z_callV (T := mX4_addPath) (As := [_, _, _]) kX4_addPath ml_X7_80 ⟨by decide, by decide⟩ dX7_readPath_73 rfl rfl (Nat.le_of_ble_eq_true rfl) ss0 ⟨by decide, rfl⟩ (Nat.le_refl _) (Nat.le_refl _) (qX4_addPath hg hs (by omega) (by omega) ?_)
              refine z_ret (v := none) dX7_readPath_76 trivial (Nat.add_zero _).symm (Nat.add_zero _).symm rfl ?_
              unfold itP at h1
              rw [if_neg (by omega), if_neg (fun z => z n0), if_neg (fun z => z n1), if_neg n2, if_neg (fun z => z n3), if_neg (fun z => z n4)] at h1
              exact h1 _ _ _ rfl
            ·
              refine z_aload_n dX7_readPath_61 rfl (by omega) ?_
              refine y_getz (k' := 6) fl_X7_27 rfl dX7_readPath_62 sh_2 (by decide) PH_r6 ?_
              refine z_if_ne (tgt := 76) dX7_readPath_65 (by decide) (fun _ => ?_) (fun q => False.elim (by omega))
              refine z_ret (v := none) dX7_readPath_76 trivial (Nat.add_zero _).symm (Nat.add_zero _).symm rfl ?_
              unfold itP at h0
              rw [if_neg (by omega), if_neg (fun z => z n0), if_neg (fun z => z n1), if_neg n2, if_neg (fun z => z n3), if_pos n4] at h0
              exact h0 _ _ _ (fun z => by have z2 : ks (h 3) (h 2 1) (ke (h 3) (h 2 1) (ke (h 3) (h 2 1) (ke (h 3) (h 2 1) a))) = -9 := z; omega)
          ·
            refine z_istore dX7_readPath_55 (by decide) rfl lss_5_4 ?_
            refine z_aload_n dX7_readPath_57 rfl (by omega) ?_
            refine z_callV (T := mX7_readStop) (As := []) kX7_readStop ml_X7_67 ⟨by decide, by decide⟩ dX7_readPath_58 rfl rfl (Nat.le_of_ble_eq_true rfl) sh_2 ⟨by decide, rfl⟩ (Nat.le_refl _) (Nat.le_refl _) (qX7_readStop_f hg hs ?_)
            refine z_aload_n dX7_readPath_61 rfl (by omega) ?_
            refine y_getz (k' := 6) fl_X7_27 rfl dX7_readPath_62 sh_2 (by decide) PH_r6 ?_
            refine z_if_ne (tgt := 76) dX7_readPath_65 (by decide) (fun _ => ?_) (fun q => False.elim (by omega))
            refine z_ret (v := none) dX7_readPath_76 trivial (Nat.add_zero _).symm (Nat.add_zero _).symm rfl ?_
            unfold itP at h0
            rw [if_neg (by omega), if_neg (fun z => z n0), if_neg (fun z => z n1), if_neg n2, if_pos n3] at h0
            exact h0 _ _ _ (fun z => by have z2 : ks (h 3) (h 2 1) (ke (h 3) (h 2 1) (ke (h 3) (h 2 1) a)) = -9 := z; omega)
      ·
        refine z_istore_n dX7_readPath_41 (by decide) rfl lss_5_3 ?_
        refine z_aload_n dX7_readPath_42 rfl (by omega) ?_
        refine z_iload_n dX7_readPath_43 rfl ?_
        refine z_iload_n dX7_readPath_44 rfl ?_
        refine z_callV (T := mX7_refuseAlike) (As := [_, _]) kX7_refuseAlike ml_X7_76 ⟨by decide, by decide⟩ dX7_readPath_45 rfl rfl (Nat.le_of_ble_eq_true rfl) sh_2 ⟨by decide, rfl⟩ (Nat.le_refl _) (Nat.le_refl _) (qX7_refuseAlike_f hg hs ?_)
        refine z_aload_n dX7_readPath_48 rfl (by omega) ?_
        refine z_iconst dX7_readPath_49 ⟨by decide, by decide⟩ ?_
        refine z_bipush dX7_readPath_50 ⟨by decide, by decide⟩ ?_
        refine z_callV (T := mX7_readNumber) (As := [_, _]) kX7_readNumber ml_X7_63 ⟨by decide, by decide⟩ dX7_readPath_52 rfl rfl (Nat.le_of_ble_eq_true rfl) sh_2 ⟨by decide, rfl⟩ (Nat.le_refl _) (Nat.le_refl _) (qX7_readNumber_f hg hs ?_)
        refine z_istore dX7_readPath_55 (by decide) rfl lss_5_4 ?_
        refine z_aload_n dX7_readPath_57 rfl (by omega) ?_
        refine z_callV (T := mX7_readStop) (As := []) kX7_readStop ml_X7_67 ⟨by decide, by decide⟩ dX7_readPath_58 rfl rfl (Nat.le_of_ble_eq_true rfl) sh_2 ⟨by decide, rfl⟩ (Nat.le_refl _) (Nat.le_refl _) (qX7_readStop_f hg hs ?_)
        refine z_aload_n dX7_readPath_61 rfl (by omega) ?_
        refine y_getz (k' := 6) fl_X7_27 rfl dX7_readPath_62 sh_2 (by decide) PH_r6 ?_
        refine z_if_ne (tgt := 76) dX7_readPath_65 (by decide) (fun _ => ?_) (fun q => False.elim (by omega))
        refine z_ret (v := none) dX7_readPath_76 trivial (Nat.add_zero _).symm (Nat.add_zero _).symm rfl ?_
        unfold itP at h0
        rw [if_neg (by omega), if_neg (fun z => z n0), if_pos n1] at h0
        exact h0 _ _ _ (fun z => by have z2 : ks (h 3) (h 2 1) (ke (h 3) (h 2 1) a) = -9 := z; omega)
    ·
      refine z_istore_n dX7_readPath_29 (by decide) rfl lss_5_2 ?_
      refine z_aload_n dX7_readPath_30 rfl (by omega) ?_
      refine z_iconst dX7_readPath_31 ⟨by decide, by decide⟩ ?_
      refine z_aload_n dX7_readPath_32 rfl (by omega) ?_
      refine y_geti (k' := 0) fl_X7_70 rfl dX7_readPath_33 ss0 (by decide) (PH_s hs) ?_
      refine z_iconst dX7_readPath_36 ⟨by decide, by decide⟩ ?_
      refine y_isub dX7_readPath_37 (by omega) (by omega) ?_
      refine z_callV (T := mX7_readNumber) (As := [_, _]) kX7_readNumber ml_X7_63 ⟨by decide, by decide⟩ dX7_readPath_38 rfl rfl (Nat.le_of_ble_eq_true rfl) sh_2 ⟨by decide, rfl⟩ (Nat.le_refl _) (Nat.le_refl _) (qX7_readNumber_f hg hs ?_)
      refine z_istore_n dX7_readPath_41 (by decide) rfl lss_5_3 ?_
      refine z_aload_n dX7_readPath_42 rfl (by omega) ?_
      refine z_iload_n dX7_readPath_43 rfl ?_
      refine z_iload_n dX7_readPath_44 rfl ?_
      refine z_callV (T := mX7_refuseAlike) (As := [_, _]) kX7_refuseAlike ml_X7_76 ⟨by decide, by decide⟩ dX7_readPath_45 rfl rfl (Nat.le_of_ble_eq_true rfl) sh_2 ⟨by decide, rfl⟩ (Nat.le_refl _) (Nat.le_refl _) (qX7_refuseAlike_f hg hs ?_)
      refine z_aload_n dX7_readPath_48 rfl (by omega) ?_
      refine z_iconst dX7_readPath_49 ⟨by decide, by decide⟩ ?_
      refine z_bipush dX7_readPath_50 ⟨by decide, by decide⟩ ?_
      refine z_callV (T := mX7_readNumber) (As := [_, _]) kX7_readNumber ml_X7_63 ⟨by decide, by decide⟩ dX7_readPath_52 rfl rfl (Nat.le_of_ble_eq_true rfl) sh_2 ⟨by decide, rfl⟩ (Nat.le_refl _) (Nat.le_refl _) (qX7_readNumber_f hg hs ?_)
      refine z_istore dX7_readPath_55 (by decide) rfl lss_5_4 ?_
      refine z_aload_n dX7_readPath_57 rfl (by omega) ?_
      refine z_callV (T := mX7_readStop) (As := []) kX7_readStop ml_X7_67 ⟨by decide, by decide⟩ dX7_readPath_58 rfl rfl (Nat.le_of_ble_eq_true rfl) sh_2 ⟨by decide, rfl⟩ (Nat.le_refl _) (Nat.le_refl _) (qX7_readStop_f hg hs ?_)
      refine z_aload_n dX7_readPath_61 rfl (by omega) ?_
      refine y_getz (k' := 6) fl_X7_27 rfl dX7_readPath_62 sh_2 (by decide) PH_r6 ?_
      refine z_if_ne (tgt := 76) dX7_readPath_65 (by decide) (fun _ => ?_) (fun q => False.elim (by omega))
      refine z_ret (v := none) dX7_readPath_76 trivial (Nat.add_zero _).symm (Nat.add_zero _).symm rfl ?_
      unfold itP at h0
      rw [if_neg (by omega), if_pos n0] at h0
      exact h0 _ _ _ (fun z => by have z2 : ks (h 3) (h 2 1) a = -9 := z; omega)
  ·
    refine z_iconst dX7_readPath_10 ⟨by decide, by decide⟩ ?_
    refine z_goto (tgt := 15) dX7_readPath_11 (by decide) ?_
    refine y_putz (k' := 6) fl_X7_27 rfl dX7_readPath_15 sh_2 (by decide) (by omega) ?_
    rw [PH_w6]
    refine z_aload_n dX7_readPath_18 rfl (by omega) ?_
    refine z_iconst dX7_readPath_19 ⟨by decide, by decide⟩ ?_
    refine z_aload_n dX7_readPath_20 rfl (by omega) ?_
    refine y_geti (k' := 0) fl_X7_70 rfl dX7_readPath_21 ss0 (by decide) (PH_s hs) ?_
    refine z_iconst dX7_readPath_24 ⟨by decide, by decide⟩ ?_
    refine y_isub dX7_readPath_25 (by omega) (by omega) ?_
    refine z_callV (T := mX7_readNumber) (As := [_, _]) kX7_readNumber ml_X7_63 ⟨by decide, by decide⟩ dX7_readPath_26 rfl rfl (Nat.le_of_ble_eq_true rfl) sh_2 ⟨by decide, rfl⟩ (Nat.le_refl _) (Nat.le_refl _) (qX7_readNumber_f hg hs ?_)
    refine z_istore_n dX7_readPath_29 (by decide) rfl lss_5_2 ?_
    refine z_aload_n dX7_readPath_30 rfl (by omega) ?_
    refine z_iconst dX7_readPath_31 ⟨by decide, by decide⟩ ?_
    refine z_aload_n dX7_readPath_32 rfl (by omega) ?_
    refine y_geti (k' := 0) fl_X7_70 rfl dX7_readPath_33 ss0 (by decide) (PH_s hs) ?_
    refine z_iconst dX7_readPath_36 ⟨by decide, by decide⟩ ?_
    refine y_isub dX7_readPath_37 (by omega) (by omega) ?_
    refine z_callV (T := mX7_readNumber) (As := [_, _]) kX7_readNumber ml_X7_63 ⟨by decide, by decide⟩ dX7_readPath_38 rfl rfl (Nat.le_of_ble_eq_true rfl) sh_2 ⟨by decide, rfl⟩ (Nat.le_refl _) (Nat.le_refl _) (qX7_readNumber_f hg hs ?_)
    refine z_istore_n dX7_readPath_41 (by decide) rfl lss_5_3 ?_
    refine z_aload_n dX7_readPath_42 rfl (by omega) ?_
    refine z_iload_n dX7_readPath_43 rfl ?_
    refine z_iload_n dX7_readPath_44 rfl ?_
    refine z_callV (T := mX7_refuseAlike) (As := [_, _]) kX7_refuseAlike ml_X7_76 ⟨by decide, by decide⟩ dX7_readPath_45 rfl rfl (Nat.le_of_ble_eq_true rfl) sh_2 ⟨by decide, rfl⟩ (Nat.le_refl _) (Nat.le_refl _) (qX7_refuseAlike_f hg hs ?_)
    refine z_aload_n dX7_readPath_48 rfl (by omega) ?_
    refine z_iconst dX7_readPath_49 ⟨by decide, by decide⟩ ?_
    refine z_bipush dX7_readPath_50 ⟨by decide, by decide⟩ ?_
    refine z_callV (T := mX7_readNumber) (As := [_, _]) kX7_readNumber ml_X7_63 ⟨by decide, by decide⟩ dX7_readPath_52 rfl rfl (Nat.le_of_ble_eq_true rfl) sh_2 ⟨by decide, rfl⟩ (Nat.le_refl _) (Nat.le_refl _) (qX7_readNumber_f hg hs ?_)
    refine z_istore dX7_readPath_55 (by decide) rfl lss_5_4 ?_
    refine z_aload_n dX7_readPath_57 rfl (by omega) ?_
    refine z_callV (T := mX7_readStop) (As := []) kX7_readStop ml_X7_67 ⟨by decide, by decide⟩ dX7_readPath_58 rfl rfl (Nat.le_of_ble_eq_true rfl) sh_2 ⟨by decide, rfl⟩ (Nat.le_refl _) (Nat.le_refl _) (qX7_readStop_f hg hs ?_)
    refine z_aload_n dX7_readPath_61 rfl (by omega) ?_
    refine y_getz (k' := 6) fl_X7_27 rfl dX7_readPath_62 sh_2 (by decide) PH_r6 ?_
    refine z_if_ne (tgt := 76) dX7_readPath_65 (by decide) (fun _ => ?_) (fun q => False.elim (by omega))
    refine z_ret (v := none) dX7_readPath_76 trivial (Nat.add_zero _).symm (Nat.add_zero _).symm rfl ?_
    unfold itP at h0
    rw [if_pos (by omega)] at h0
    exact h0 _ _ _ (fun z => by have z2 : p = -9 := z; omega)
theorem qX7_readDirector {l : Launch} {g h F : zH} {Q : zQt} {s a p k v : Int} (hg : zGd g) (hs : s = 4 ∨ s = 14) (hL : 0 ≤ h 2 1 ∧ h 2 1 ≤ 150) (hT : ∀ i, 0 ≤ i → i < h 2 1 → 0 ≤ h 3 i ∧ h 3 i ≤ 255) (hF : FO F) (a0 : 0 ≤ a) (a1 : a ≤ h 2 1) (p0 : 0 ≤ p) (h0 : ∀ a' k' v', ¬ (itD F (h 3) (h 2 1) a p).1 = -9 → Q none (SHL, g) (PH h s F a' (itD F (h 3) (h 2 1) a p).1 k' v' 1)) (h1 : ∀ p' k' v', (itD F (h 3) (h 2 1) a p).1 = -9 → Q none (SHL, g) (PH h s (itD F (h 3) (h 2 1) a p).2.1 (itD F (h 3) (h 2 1) a p).2.2 p' k' v' 0)) : zC l mX7_readDirector [zr 2, zr s] (SHL, g) (PH h s F a p k v 0) Q := by
  refine z_method kX7_readDirector.1 rfl (Nat.le_of_ble_eq_true rfl) (fun hok hh => ?_)
  obtain ⟨ss0, ss1, ss2, ss3, ss4, ss5, ss6, ss7, ss8, ss9, sg4, sg5, sg6, sg7, sg8, sg9, sg10, sg11, sg12⟩ := houseF hg hs
  obtain ⟨⟨f0, f1, f2, f3⟩, fp, fd, fc⟩ := id hF
  have u1 := ks_r (X := h 3) a1
  have w1 := ke_r (X := h 3) a1
  have u2 := ks_r (X := h 3) w1.2
  have w2 := ke_r (X := h 3) w1.2
  have u3 := ks_r (X := h 3) w2.2
  have w3 := ke_r (X := h 3) w2.2
  have u4 := ks_r (X := h 3) w3.2
  have w4 := ke_r (X := h 3) w3.2
  have u5 := ks_r (X := h 3) w4.2
  have w5 := ke_r (X := h 3) w4.2
  refine z_aload_n dX7_readDirector_0 rfl (by omega) ?_
  refine z_aload_n dX7_readDirector_1 rfl (by omega) ?_
  refine y_geti (k' := 2) fl_X7_84 rfl dX7_readDirector_2 ss0 (by decide) (PH_s hs) ?_
  refine z_bipush dX7_readDirector_5 ⟨by decide, by decide⟩ ?_
  refine z_icmp_lt (tgt := 14) dX7_readDirector_7 (by decide) (fun c7 => ?_) (fun c7 => ?_)
  ·
    refine z_iconst dX7_readDirector_14 ⟨by decide, by decide⟩ ?_
    refine y_putz (k' := 6) fl_X7_27 rfl dX7_readDirector_15 sh_2 (by decide) (by omega) ?_
    rw [PH_w6]
    refine z_aload_n dX7_readDirector_18 rfl (by omega) ?_
    refine z_iconst dX7_readDirector_19 ⟨by decide, by decide⟩ ?_
    refine z_bipush dX7_readDirector_20 ⟨by decide, by decide⟩ ?_
    refine z_callV (T := mX7_readNumber) (As := [_, _]) kX7_readNumber ml_X7_63 ⟨by decide, by decide⟩ dX7_readDirector_22 rfl rfl (Nat.le_of_ble_eq_true rfl) sh_2 ⟨by decide, rfl⟩ (Nat.le_refl _) (Nat.le_refl _) (qX7_readNumber hg hs hL hT (by omega) (by omega) (by omega) (by omega) (fun k0 v0 n0 => ?_) (fun k0 v0 n0 => ?_))
    ·
      refine z_istore_n dX7_readDirector_25 (by decide) rfl lss_6_2 ?_
      refine z_aload_n dX7_readDirector_26 rfl (by omega) ?_
      refine z_iconst dX7_readDirector_27 ⟨by decide, by decide⟩ ?_
      refine z_bipush dX7_readDirector_28 ⟨by decide, by decide⟩ ?_
      refine z_callV (T := mX7_readNumber) (As := [_, _]) kX7_readNumber ml_X7_63 ⟨by decide, by decide⟩ dX7_readDirector_30 rfl rfl (Nat.le_of_ble_eq_true rfl) sh_2 ⟨by decide, rfl⟩ (Nat.le_refl _) (Nat.le_refl _) (qX7_readNumber hg hs hL hT (by omega) (by omega) (by omega) (by omega) (fun k1 v1 n1 => ?_) (fun k1 v1 n1 => ?_))
      ·
        refine z_istore_n dX7_readDirector_33 (by decide) rfl lss_6_3 ?_
        refine z_aload_n dX7_readDirector_34 rfl (by omega) ?_
        refine z_iconst dX7_readDirector_35 ⟨by decide, by decide⟩ ?_
        refine z_iconst dX7_readDirector_36 ⟨by decide, by decide⟩ ?_
        refine z_callV (T := mX7_readNumber) (As := [_, _]) kX7_readNumber ml_X7_63 ⟨by decide, by decide⟩ dX7_readDirector_37 rfl rfl (Nat.le_of_ble_eq_true rfl) sh_2 ⟨by decide, rfl⟩ (Nat.le_refl _) (Nat.le_refl _) (qX7_readNumber hg hs hL hT (by omega) (by omega) (by omega) (by omega) (fun k2 v2 n2 => ?_) (fun k2 v2 n2 => ?_))
        ·
          refine z_istore dX7_readDirector_40 (by decide) rfl lss_6_4 ?_
          refine z_aload_n dX7_readDirector_42 rfl (by omega) ?_
          refine z_iconst dX7_readDirector_43 ⟨by decide, by decide⟩ ?_
          refine z_aload_n dX7_readDirector_44 rfl (by omega) ?_
          refine y_geti (k' := 0) fl_X7_70 rfl dX7_readDirector_45 ss0 (by decide) (PH_s hs) ?_
          refine z_iconst dX7_readDirector_48 ⟨by decide, by decide⟩ ?_
          refine y_isub dX7_readDirector_49 (by omega) (by omega) ?_
          refine z_callV (T := mX7_readNumber) (As := [_, _]) kX7_readNumber ml_X7_63 ⟨by decide, by decide⟩ dX7_readDirector_50 rfl rfl (Nat.le_of_ble_eq_true rfl) sh_2 ⟨by decide, rfl⟩ (Nat.le_refl _) (Nat.le_refl _) (qX7_readNumber hg hs hL hT (by omega) (by omega) (by omega) (by omega) (fun k3 v3 n3 => ?_) (fun k3 v3 n3 => ?_))
          ·
            refine z_istore dX7_readDirector_53 (by decide) rfl lss_6_5 ?_
            refine z_aload_n dX7_readDirector_55 rfl (by omega) ?_
            refine z_callV (T := mX7_readStop) (As := []) kX7_readStop ml_X7_67 ⟨by decide, by decide⟩ dX7_readDirector_56 rfl rfl (Nat.le_of_ble_eq_true rfl) sh_2 ⟨by decide, rfl⟩ (Nat.le_refl _) (Nat.le_refl _) (qX7_readStop hg hs hL hT (by omega) (by omega) (fun k4 v4 n4 => ?_) (fun k4 v4 n4 => ?_))
            ·
              refine z_aload_n dX7_readDirector_59 rfl (by omega) ?_
              refine y_getz (k' := 6) fl_X7_27 rfl dX7_readDirector_60 sh_2 (by decide) PH_r6 ?_
              refine z_if_ne (tgt := 76) dX7_readDirector_63 (by decide) (fun q => False.elim (by omega)) (fun _ => ?_)
              refine z_aload_n dX7_readDirector_66 rfl (by omega) ?_
              refine z_iload_n dX7_readDirector_67 rfl ?_
              refine z_iload_n dX7_readDirector_68 rfl ?_
              refine z_iload dX7_readDirector_69 rfl ?_
              refine z_iload dX7_readDirector_71 rfl ?_
              refine z_callV (T := mX4_addDirector) (As := [_, _, _, _]) kX4_addDirector ml_X7_87 ⟨by decide, by decide⟩ dX7_readDirector_73 rfl rfl (Nat.le_of_ble_eq_true rfl) ss0 ⟨by decide, rfl⟩ (Nat.le_refl _) (Nat.le_refl _) (qX4_addDirector hg hs (by omega) (by omega) ?_)
              refine z_ret (v := none) dX7_readDirector_76 trivial (Nat.add_zero _).symm (Nat.add_zero _).symm rfl ?_
              unfold itD at h1
              rw [if_neg (by omega), if_neg (fun z => z n0), if_neg (fun z => z n1), if_neg (fun z => z n2), if_neg (fun z => z n3), if_neg (fun z => z n4)] at h1
              exact h1 _ _ _ rfl
            ·
              refine z_aload_n dX7_readDirector_59 rfl (by omega) ?_
              refine y_getz (k' := 6) fl_X7_27 rfl dX7_readDirector_60 sh_2 (by decide) PH_r6 ?_
              refine z_if_ne (tgt := 76) dX7_readDirector_63 (by decide) (fun _ => ?_) (fun q => False.elim (by omega))
              refine z_ret (v := none) dX7_readDirector_76 trivial (Nat.add_zero _).symm (Nat.add_zero _).symm rfl ?_
              unfold itD at h0
              rw [if_neg (by omega), if_neg (fun z => z n0), if_neg (fun z => z n1), if_neg (fun z => z n2), if_neg (fun z => z n3), if_pos n4] at h0
              exact h0 _ _ _ (fun z => by have z2 : ks (h 3) (h 2 1) (ke (h 3) (h 2 1) (ke (h 3) (h 2 1) (ke (h 3) (h 2 1) (ke (h 3) (h 2 1) a)))) = -9 := z; omega)
          ·
            refine z_istore dX7_readDirector_53 (by decide) rfl lss_6_5 ?_
            refine z_aload_n dX7_readDirector_55 rfl (by omega) ?_
            refine z_callV (T := mX7_readStop) (As := []) kX7_readStop ml_X7_67 ⟨by decide, by decide⟩ dX7_readDirector_56 rfl rfl (Nat.le_of_ble_eq_true rfl) sh_2 ⟨by decide, rfl⟩ (Nat.le_refl _) (Nat.le_refl _) (qX7_readStop_f hg hs ?_)
            refine z_aload_n dX7_readDirector_59 rfl (by omega) ?_
            refine y_getz (k' := 6) fl_X7_27 rfl dX7_readDirector_60 sh_2 (by decide) PH_r6 ?_
            refine z_if_ne (tgt := 76) dX7_readDirector_63 (by decide) (fun _ => ?_) (fun q => False.elim (by omega))
            refine z_ret (v := none) dX7_readDirector_76 trivial (Nat.add_zero _).symm (Nat.add_zero _).symm rfl ?_
            unfold itD at h0
            rw [if_neg (by omega), if_neg (fun z => z n0), if_neg (fun z => z n1), if_neg (fun z => z n2), if_pos n3] at h0
            exact h0 _ _ _ (fun z => by have z2 : ks (h 3) (h 2 1) (ke (h 3) (h 2 1) (ke (h 3) (h 2 1) (ke (h 3) (h 2 1) a))) = -9 := z; omega)
        ·
          refine z_istore dX7_readDirector_40 (by decide) rfl lss_6_4 ?_
          refine z_aload_n dX7_readDirector_42 rfl (by omega) ?_
          refine z_iconst dX7_readDirector_43 ⟨by decide, by decide⟩ ?_
          refine z_aload_n dX7_readDirector_44 rfl (by omega) ?_
          refine y_geti (k' := 0) fl_X7_70 rfl dX7_readDirector_45 ss0 (by decide) (PH_s hs) ?_
          refine z_iconst dX7_readDirector_48 ⟨by decide, by decide⟩ ?_
          refine y_isub dX7_readDirector_49 (by omega) (by omega) ?_
          refine z_callV (T := mX7_readNumber) (As := [_, _]) kX7_readNumber ml_X7_63 ⟨by decide, by decide⟩ dX7_readDirector_50 rfl rfl (Nat.le_of_ble_eq_true rfl) sh_2 ⟨by decide, rfl⟩ (Nat.le_refl _) (Nat.le_refl _) (qX7_readNumber_f hg hs ?_)
          refine z_istore dX7_readDirector_53 (by decide) rfl lss_6_5 ?_
          refine z_aload_n dX7_readDirector_55 rfl (by omega) ?_
          refine z_callV (T := mX7_readStop) (As := []) kX7_readStop ml_X7_67 ⟨by decide, by decide⟩ dX7_readDirector_56 rfl rfl (Nat.le_of_ble_eq_true rfl) sh_2 ⟨by decide, rfl⟩ (Nat.le_refl _) (Nat.le_refl _) (qX7_readStop_f hg hs ?_)
          refine z_aload_n dX7_readDirector_59 rfl (by omega) ?_
          refine y_getz (k' := 6) fl_X7_27 rfl dX7_readDirector_60 sh_2 (by decide) PH_r6 ?_
          refine z_if_ne (tgt := 76) dX7_readDirector_63 (by decide) (fun _ => ?_) (fun q => False.elim (by omega))
          refine z_ret (v := none) dX7_readDirector_76 trivial (Nat.add_zero _).symm (Nat.add_zero _).symm rfl ?_
          unfold itD at h0
          rw [if_neg (by omega), if_neg (fun z => z n0), if_neg (fun z => z n1), if_pos n2] at h0
          exact h0 _ _ _ (fun z => by have z2 : ks (h 3) (h 2 1) (ke (h 3) (h 2 1) (ke (h 3) (h 2 1) a)) = -9 := z; omega)
      ·
        refine z_istore_n dX7_readDirector_33 (by decide) rfl lss_6_3 ?_
        refine z_aload_n dX7_readDirector_34 rfl (by omega) ?_
        refine z_iconst dX7_readDirector_35 ⟨by decide, by decide⟩ ?_
        refine z_iconst dX7_readDirector_36 ⟨by decide, by decide⟩ ?_
        refine z_callV (T := mX7_readNumber) (As := [_, _]) kX7_readNumber ml_X7_63 ⟨by decide, by decide⟩ dX7_readDirector_37 rfl rfl (Nat.le_of_ble_eq_true rfl) sh_2 ⟨by decide, rfl⟩ (Nat.le_refl _) (Nat.le_refl _) (qX7_readNumber_f hg hs ?_)
        refine z_istore dX7_readDirector_40 (by decide) rfl lss_6_4 ?_
        refine z_aload_n dX7_readDirector_42 rfl (by omega) ?_
        refine z_iconst dX7_readDirector_43 ⟨by decide, by decide⟩ ?_
        refine z_aload_n dX7_readDirector_44 rfl (by omega) ?_
        refine y_geti (k' := 0) fl_X7_70 rfl dX7_readDirector_45 ss0 (by decide) (PH_s hs) ?_
        refine z_iconst dX7_readDirector_48 ⟨by decide, by decide⟩ ?_
        refine y_isub dX7_readDirector_49 (by omega) (by omega) ?_
        refine z_callV (T := mX7_readNumber) (As := [_, _]) kX7_readNumber ml_X7_63 ⟨by decide, by decide⟩ dX7_readDirector_50 rfl rfl (Nat.le_of_ble_eq_true rfl) sh_2 ⟨by decide, rfl⟩ (Nat.le_refl _) (Nat.le_refl _) (qX7_readNumber_f hg hs ?_)
        refine z_istore dX7_readDirector_53 (by decide) rfl lss_6_5 ?_
        refine z_aload_n dX7_readDirector_55 rfl (by omega) ?_
        refine z_callV (T := mX7_readStop) (As := []) kX7_readStop ml_X7_67 ⟨by decide, by decide⟩ dX7_readDirector_56 rfl rfl (Nat.le_of_ble_eq_true rfl) sh_2 ⟨by decide, rfl⟩ (Nat.le_refl _) (Nat.le_refl _) (qX7_readStop_f hg hs ?_)
        refine z_aload_n dX7_readDirector_59 rfl (by omega) ?_
        refine y_getz (k' := 6) fl_X7_27 rfl dX7_readDirector_60 sh_2 (by decide) PH_r6 ?_
        refine z_if_ne (tgt := 76) dX7_readDirector_63 (by decide) (fun _ => ?_) (fun q => False.elim (by omega))
        refine z_ret (v := none) dX7_readDirector_76 trivial (Nat.add_zero _).symm (Nat.add_zero _).symm rfl ?_
        unfold itD at h0
        rw [if_neg (by omega), if_neg (fun z => z n0), if_pos n1] at h0
        exact h0 _ _ _ (fun z => by have z2 : ks (h 3) (h 2 1) (ke (h 3) (h 2 1) a) = -9 := z; omega)
    ·
      refine z_istore_n dX7_readDirector_25 (by decide) rfl lss_6_2 ?_
      refine z_aload_n dX7_readDirector_26 rfl (by omega) ?_
      refine z_iconst dX7_readDirector_27 ⟨by decide, by decide⟩ ?_
      refine z_bipush dX7_readDirector_28 ⟨by decide, by decide⟩ ?_
      refine z_callV (T := mX7_readNumber) (As := [_, _]) kX7_readNumber ml_X7_63 ⟨by decide, by decide⟩ dX7_readDirector_30 rfl rfl (Nat.le_of_ble_eq_true rfl) sh_2 ⟨by decide, rfl⟩ (Nat.le_refl _) (Nat.le_refl _) (qX7_readNumber_f hg hs ?_)
      refine z_istore_n dX7_readDirector_33 (by decide) rfl lss_6_3 ?_
      refine z_aload_n dX7_readDirector_34 rfl (by omega) ?_
      refine z_iconst dX7_readDirector_35 ⟨by decide, by decide⟩ ?_
      refine z_iconst dX7_readDirector_36 ⟨by decide, by decide⟩ ?_
      refine z_callV (T := mX7_readNumber) (As := [_, _]) kX7_readNumber ml_X7_63 ⟨by decide, by decide⟩ dX7_readDirector_37 rfl rfl (Nat.le_of_ble_eq_true rfl) sh_2 ⟨by decide, rfl⟩ (Nat.le_refl _) (Nat.le_refl _) (qX7_readNumber_f hg hs ?_)
      refine z_istore dX7_readDirector_40 (by decide) rfl lss_6_4 ?_
      refine z_aload_n dX7_readDirector_42 rfl (by omega) ?_
      refine z_iconst dX7_readDirector_43 ⟨by decide, by decide⟩ ?_
      refine z_aload_n dX7_readDirector_44 rfl (by omega) ?_
      refine y_geti (k' := 0) fl_X7_70 rfl dX7_readDirector_45 ss0 (by decide) (PH_s hs) ?_
      refine z_iconst dX7_readDirector_48 ⟨by decide, by decide⟩ ?_
      refine y_isub dX7_readDirector_49 (by omega) (by omega) ?_
      refine z_callV (T := mX7_readNumber) (As := [_, _]) kX7_readNumber ml_X7_63 ⟨by decide, by decide⟩ dX7_readDirector_50 rfl rfl (Nat.le_of_ble_eq_true rfl) sh_2 ⟨by decide, rfl⟩ (Nat.le_refl _) (Nat.le_refl _) (qX7_readNumber_f hg hs ?_)
      refine z_istore dX7_readDirector_53 (by decide) rfl lss_6_5 ?_
      refine z_aload_n dX7_readDirector_55 rfl (by omega) ?_
      refine z_callV (T := mX7_readStop) (As := []) kX7_readStop ml_X7_67 ⟨by decide, by decide⟩ dX7_readDirector_56 rfl rfl (Nat.le_of_ble_eq_true rfl) sh_2 ⟨by decide, rfl⟩ (Nat.le_refl _) (Nat.le_refl _) (qX7_readStop_f hg hs ?_)
      refine z_aload_n dX7_readDirector_59 rfl (by omega) ?_
      refine y_getz (k' := 6) fl_X7_27 rfl dX7_readDirector_60 sh_2 (by decide) PH_r6 ?_
      refine z_if_ne (tgt := 76) dX7_readDirector_63 (by decide) (fun _ => ?_) (fun q => False.elim (by omega))
      refine z_ret (v := none) dX7_readDirector_76 trivial (Nat.add_zero _).symm (Nat.add_zero _).symm rfl ?_
      unfold itD at h0
      rw [if_neg (by omega), if_pos n0] at h0
      exact h0 _ _ _ (fun z => by have z2 : ks (h 3) (h 2 1) a = -9 := z; omega)
  ·
    refine z_iconst dX7_readDirector_10 ⟨by decide, by decide⟩ ?_
    refine z_goto (tgt := 15) dX7_readDirector_11 (by decide) ?_
    refine y_putz (k' := 6) fl_X7_27 rfl dX7_readDirector_15 sh_2 (by decide) (by omega) ?_
    rw [PH_w6]
    refine z_aload_n dX7_readDirector_18 rfl (by omega) ?_
    refine z_iconst dX7_readDirector_19 ⟨by decide, by decide⟩ ?_
    refine z_bipush dX7_readDirector_20 ⟨by decide, by decide⟩ ?_
    refine z_callV (T := mX7_readNumber) (As := [_, _]) kX7_readNumber ml_X7_63 ⟨by decide, by decide⟩ dX7_readDirector_22 rfl rfl (Nat.le_of_ble_eq_true rfl) sh_2 ⟨by decide, rfl⟩ (Nat.le_refl _) (Nat.le_refl _) (qX7_readNumber_f hg hs ?_)
    refine z_istore_n dX7_readDirector_25 (by decide) rfl lss_6_2 ?_
    refine z_aload_n dX7_readDirector_26 rfl (by omega) ?_
    refine z_iconst dX7_readDirector_27 ⟨by decide, by decide⟩ ?_
    refine z_bipush dX7_readDirector_28 ⟨by decide, by decide⟩ ?_
    refine z_callV (T := mX7_readNumber) (As := [_, _]) kX7_readNumber ml_X7_63 ⟨by decide, by decide⟩ dX7_readDirector_30 rfl rfl (Nat.le_of_ble_eq_true rfl) sh_2 ⟨by decide, rfl⟩ (Nat.le_refl _) (Nat.le_refl _) (qX7_readNumber_f hg hs ?_)
    refine z_istore_n dX7_readDirector_33 (by decide) rfl lss_6_3 ?_
    refine z_aload_n dX7_readDirector_34 rfl (by omega) ?_
    refine z_iconst dX7_readDirector_35 ⟨by decide, by decide⟩ ?_
    refine z_iconst dX7_readDirector_36 ⟨by decide, by decide⟩ ?_
    refine z_callV (T := mX7_readNumber) (As := [_, _]) kX7_readNumber ml_X7_63 ⟨by decide, by decide⟩ dX7_readDirector_37 rfl rfl (Nat.le_of_ble_eq_true rfl) sh_2 ⟨by decide, rfl⟩ (Nat.le_refl _) (Nat.le_refl _) (qX7_readNumber_f hg hs ?_)
    refine z_istore dX7_readDirector_40 (by decide) rfl lss_6_4 ?_
    refine z_aload_n dX7_readDirector_42 rfl (by omega) ?_
    refine z_iconst dX7_readDirector_43 ⟨by decide, by decide⟩ ?_
    refine z_aload_n dX7_readDirector_44 rfl (by omega) ?_
    refine y_geti (k' := 0) fl_X7_70 rfl dX7_readDirector_45 ss0 (by decide) (PH_s hs) ?_
    refine z_iconst dX7_readDirector_48 ⟨by decide, by decide⟩ ?_
    refine y_isub dX7_readDirector_49 (by omega) (by omega) ?_
    refine z_callV (T := mX7_readNumber) (As := [_, _]) kX7_readNumber ml_X7_63 ⟨by decide, by decide⟩ dX7_readDirector_50 rfl rfl (Nat.le_of_ble_eq_true rfl) sh_2 ⟨by decide, rfl⟩ (Nat.le_refl _) (Nat.le_refl _) (qX7_readNumber_f hg hs ?_)
    refine z_istore dX7_readDirector_53 (by decide) rfl lss_6_5 ?_
    refine z_aload_n dX7_readDirector_55 rfl (by omega) ?_
    refine z_callV (T := mX7_readStop) (As := []) kX7_readStop ml_X7_67 ⟨by decide, by decide⟩ dX7_readDirector_56 rfl rfl (Nat.le_of_ble_eq_true rfl) sh_2 ⟨by decide, rfl⟩ (Nat.le_refl _) (Nat.le_refl _) (qX7_readStop_f hg hs ?_)
    refine z_aload_n dX7_readDirector_59 rfl (by omega) ?_
    refine y_getz (k' := 6) fl_X7_27 rfl dX7_readDirector_60 sh_2 (by decide) PH_r6 ?_
    refine z_if_ne (tgt := 76) dX7_readDirector_63 (by decide) (fun _ => ?_) (fun q => False.elim (by omega))
    refine z_ret (v := none) dX7_readDirector_76 trivial (Nat.add_zero _).symm (Nat.add_zero _).symm rfl ?_
    unfold itD at h0
    rw [if_pos (by omega)] at h0
    exact h0 _ _ _ (fun z => by have z2 : p = -9 := z; omega)
theorem qX7_readFriends {l : Launch} {g h F : zH} {Q : zQt} {s a p k v : Int} (hg : zGd g) (hs : s = 4 ∨ s = 14) (hL : 0 ≤ h 2 1 ∧ h 2 1 ≤ 150) (hT : ∀ i, 0 ≤ i → i < h 2 1 → 0 ≤ h 3 i ∧ h 3 i ≤ 255) (hF : FO F) (a0 : 0 ≤ a) (a1 : a ≤ h 2 1) (p0 : 0 ≤ p) (h0 : ∀ a' k' v', ¬ (itF F (h 3) (h 2 1) a p).1 = -9 → Q none (SHL, g) (PH h s F a' (itF F (h 3) (h 2 1) a p).1 k' v' 1)) (h1 : ∀ p' k' v', (itF F (h 3) (h 2 1) a p).1 = -9 → Q none (SHL, g) (PH h s (itF F (h 3) (h 2 1) a p).2.1 (itF F (h 3) (h 2 1) a p).2.2 p' k' v' 0)) : zC l mX7_readFriends [zr 2, zr s] (SHL, g) (PH h s F a p k v 0) Q := by
  refine z_method kX7_readFriends.1 rfl (Nat.le_of_ble_eq_true rfl) (fun hok hh => ?_)
  obtain ⟨ss0, ss1, ss2, ss3, ss4, ss5, ss6, ss7, ss8, ss9, sg4, sg5, sg6, sg7, sg8, sg9, sg10, sg11, sg12⟩ := houseF hg hs
  obtain ⟨⟨f0, f1, f2, f3⟩, fp, fd, fc⟩ := id hF
  have u1 := ks_r (X := h 3) a1
  have w1 := ke_r (X := h 3) a1
  have u2 := ks_r (X := h 3) w1.2
  have w2 := ke_r (X := h 3) w1.2
  have u3 := ks_r (X := h 3) w2.2
  have w3 := ke_r (X := h 3) w2.2
  refine z_aload_n dX7_readFriends_0 rfl (by omega) ?_
  refine z_iconst dX7_readFriends_1 ⟨by decide, by decide⟩ ?_
  refine z_aload_n dX7_readFriends_2 rfl (by omega) ?_
  refine y_geti (k' := 2) fl_X7_84 rfl dX7_readFriends_3 ss0 (by decide) (PH_s hs) ?_
  refine z_iconst dX7_readFriends_6 ⟨by decide, by decide⟩ ?_
  refine y_isub dX7_readFriends_7 (by omega) (by omega) ?_
  refine z_callV (T := mX7_readNumber) (As := [_, _]) kX7_readNumber ml_X7_63 ⟨by decide, by decide⟩ dX7_readFriends_8 rfl rfl (Nat.le_of_ble_eq_true rfl) sh_2 ⟨by decide, rfl⟩ (Nat.le_refl _) (Nat.le_refl _) (qX7_readNumber hg hs hL hT (by omega) (by omega) (by omega) (by omega) (fun k0 v0 n0 => ?_) (fun k0 v0 n0 => ?_))
  ·
    refine z_istore_n dX7_readFriends_11 (by decide) rfl lss_4_2 ?_
    refine z_aload_n dX7_readFriends_12 rfl (by omega) ?_
    refine z_iconst dX7_readFriends_13 ⟨by decide, by decide⟩ ?_
    refine z_aload_n dX7_readFriends_14 rfl (by omega) ?_
    refine y_geti (k' := 2) fl_X7_84 rfl dX7_readFriends_15 ss0 (by decide) (PH_s hs) ?_
    refine z_iconst dX7_readFriends_18 ⟨by decide, by decide⟩ ?_
    refine y_isub dX7_readFriends_19 (by omega) (by omega) ?_
    refine z_callV (T := mX7_readNumber) (As := [_, _]) kX7_readNumber ml_X7_63 ⟨by decide, by decide⟩ dX7_readFriends_20 rfl rfl (Nat.le_of_ble_eq_true rfl) sh_2 ⟨by decide, rfl⟩ (Nat.le_refl _) (Nat.le_refl _) (qX7_readNumber hg hs hL hT (by omega) (by omega) (by omega) (by omega) (fun k1 v1 n1 => ?_) (fun k1 v1 n1 => ?_))
    ·
      refine z_istore_n dX7_readFriends_23 (by decide) rfl lss_4_3 ?_
      refine z_aload_n dX7_readFriends_24 rfl (by omega) ?_
      refine z_iload_n dX7_readFriends_25 rfl ?_
      refine z_iload_n dX7_readFriends_26 rfl ?_
      refine z_callV (T := mX7_refuseAlike) (As := [_, _]) kX7_refuseAlike ml_X7_76 ⟨by decide, by decide⟩ dX7_readFriends_27 rfl rfl (Nat.le_of_ble_eq_true rfl) sh_2 ⟨by decide, rfl⟩ (Nat.le_refl _) (Nat.le_refl _) (qX7_refuseAlike hg hs (fun n2 => ?_) (fun n2 => ?_))
      ·
        refine z_aload_n dX7_readFriends_30 rfl (by omega) ?_
        refine z_callV (T := mX7_readStop) (As := []) kX7_readStop ml_X7_67 ⟨by decide, by decide⟩ dX7_readFriends_31 rfl rfl (Nat.le_of_ble_eq_true rfl) sh_2 ⟨by decide, rfl⟩ (Nat.le_refl _) (Nat.le_refl _) (qX7_readStop_f hg hs ?_)
        refine z_aload_n dX7_readFriends_34 rfl (by omega) ?_
        refine y_getz (k' := 6) fl_X7_27 rfl dX7_readFriends_35 sh_2 (by decide) PH_r6 ?_
        refine z_if_ne (tgt := 47) dX7_readFriends_38 (by decide) (fun _ => ?_) (fun q => False.elim (by omega))
        refine z_ret (v := none) dX7_readFriends_47 trivial (Nat.add_zero _).symm (Nat.add_zero _).symm rfl ?_
        unfold itF at h0
        rw [if_neg (fun z => z n0), if_neg (fun z => z n1), if_pos n2] at h0
        exact h0 _ _ _ (fun z => by have z2 : ks (h 3) (h 2 1) (ke (h 3) (h 2 1) a) = -9 := z; omega)
      ·
        refine z_aload_n dX7_readFriends_30 rfl (by omega) ?_
        refine z_callV (T := mX7_readStop) (As := []) kX7_readStop ml_X7_67 ⟨by decide, by decide⟩ dX7_readFriends_31 rfl rfl (Nat.le_of_ble_eq_true rfl) sh_2 ⟨by decide, rfl⟩ (Nat.le_refl _) (Nat.le_refl _) (qX7_readStop hg hs hL hT (by omega) (by omega) (fun k3 v3 n3 => ?_) (fun k3 v3 n3 => ?_))
        ·
          refine z_aload_n dX7_readFriends_34 rfl (by omega) ?_
          refine y_getz (k' := 6) fl_X7_27 rfl dX7_readFriends_35 sh_2 (by decide) PH_r6 ?_
          refine z_if_ne (tgt := 47) dX7_readFriends_38 (by decide) (fun q => False.elim (by omega)) (fun _ => ?_)
          refine z_aload_n dX7_readFriends_41 rfl (by omega) ?_
          refine z_iload_n dX7_readFriends_42 rfl ?_
          refine z_iload_n dX7_readFriends_43 rfl ?_
          refine z_callV (T := mX4_addFriends) (As := [_, _]) kX4_addFriends ml_X7_91 ⟨by decide, by decide⟩ dX7_readFriends_44 rfl rfl (Nat.le_of_ble_eq_true rfl) ss0 ⟨by decide, rfl⟩ (Nat.le_refl _) (Nat.le_refl _) (qX4_addFriends hg hs (by omega) (by omega) (by omega) (by omega) (by omega) n2 ?_)
          refine z_ret (v := none) dX7_readFriends_47 trivial (Nat.add_zero _).symm (Nat.add_zero _).symm rfl ?_
          unfold itF at h1
          rw [if_neg (fun z => z n0), if_neg (fun z => z n1), if_neg n2, if_neg (fun z => z n3)] at h1
          exact h1 _ _ _ rfl
        ·
          refine z_aload_n dX7_readFriends_34 rfl (by omega) ?_
          refine y_getz (k' := 6) fl_X7_27 rfl dX7_readFriends_35 sh_2 (by decide) PH_r6 ?_
          refine z_if_ne (tgt := 47) dX7_readFriends_38 (by decide) (fun _ => ?_) (fun q => False.elim (by omega))
          refine z_ret (v := none) dX7_readFriends_47 trivial (Nat.add_zero _).symm (Nat.add_zero _).symm rfl ?_
          unfold itF at h0
          rw [if_neg (fun z => z n0), if_neg (fun z => z n1), if_neg n2, if_pos n3] at h0
          exact h0 _ _ _ (fun z => by have z2 : ks (h 3) (h 2 1) (ke (h 3) (h 2 1) (ke (h 3) (h 2 1) a)) = -9 := z; omega)
    ·
      refine z_istore_n dX7_readFriends_23 (by decide) rfl lss_4_3 ?_
      refine z_aload_n dX7_readFriends_24 rfl (by omega) ?_
      refine z_iload_n dX7_readFriends_25 rfl ?_
      refine z_iload_n dX7_readFriends_26 rfl ?_
      refine z_callV (T := mX7_refuseAlike) (As := [_, _]) kX7_refuseAlike ml_X7_76 ⟨by decide, by decide⟩ dX7_readFriends_27 rfl rfl (Nat.le_of_ble_eq_true rfl) sh_2 ⟨by decide, rfl⟩ (Nat.le_refl _) (Nat.le_refl _) (qX7_refuseAlike_f hg hs ?_)
      refine z_aload_n dX7_readFriends_30 rfl (by omega) ?_
      refine z_callV (T := mX7_readStop) (As := []) kX7_readStop ml_X7_67 ⟨by decide, by decide⟩ dX7_readFriends_31 rfl rfl (Nat.le_of_ble_eq_true rfl) sh_2 ⟨by decide, rfl⟩ (Nat.le_refl _) (Nat.le_refl _) (qX7_readStop_f hg hs ?_)
      refine z_aload_n dX7_readFriends_34 rfl (by omega) ?_
      refine y_getz (k' := 6) fl_X7_27 rfl dX7_readFriends_35 sh_2 (by decide) PH_r6 ?_
      refine z_if_ne (tgt := 47) dX7_readFriends_38 (by decide) (fun _ => ?_) (fun q => False.elim (by omega))
      refine z_ret (v := none) dX7_readFriends_47 trivial (Nat.add_zero _).symm (Nat.add_zero _).symm rfl ?_
      unfold itF at h0
      rw [if_neg (fun z => z n0), if_pos n1] at h0
      exact h0 _ _ _ (fun z => by have z2 : ks (h 3) (h 2 1) (ke (h 3) (h 2 1) a) = -9 := z; omega)
  ·
    refine z_istore_n dX7_readFriends_11 (by decide) rfl lss_4_2 ?_
    refine z_aload_n dX7_readFriends_12 rfl (by omega) ?_
    refine z_iconst dX7_readFriends_13 ⟨by decide, by decide⟩ ?_
    refine z_aload_n dX7_readFriends_14 rfl (by omega) ?_
    refine y_geti (k' := 2) fl_X7_84 rfl dX7_readFriends_15 ss0 (by decide) (PH_s hs) ?_
    refine z_iconst dX7_readFriends_18 ⟨by decide, by decide⟩ ?_
    refine y_isub dX7_readFriends_19 (by omega) (by omega) ?_
    refine z_callV (T := mX7_readNumber) (As := [_, _]) kX7_readNumber ml_X7_63 ⟨by decide, by decide⟩ dX7_readFriends_20 rfl rfl (Nat.le_of_ble_eq_true rfl) sh_2 ⟨by decide, rfl⟩ (Nat.le_refl _) (Nat.le_refl _) (qX7_readNumber_f hg hs ?_)
    refine z_istore_n dX7_readFriends_23 (by decide) rfl lss_4_3 ?_
    refine z_aload_n dX7_readFriends_24 rfl (by omega) ?_
    refine z_iload_n dX7_readFriends_25 rfl ?_
    refine z_iload_n dX7_readFriends_26 rfl ?_
    refine z_callV (T := mX7_refuseAlike) (As := [_, _]) kX7_refuseAlike ml_X7_76 ⟨by decide, by decide⟩ dX7_readFriends_27 rfl rfl (Nat.le_of_ble_eq_true rfl) sh_2 ⟨by decide, rfl⟩ (Nat.le_refl _) (Nat.le_refl _) (qX7_refuseAlike_f hg hs ?_)
    refine z_aload_n dX7_readFriends_30 rfl (by omega) ?_
    refine z_callV (T := mX7_readStop) (As := []) kX7_readStop ml_X7_67 ⟨by decide, by decide⟩ dX7_readFriends_31 rfl rfl (Nat.le_of_ble_eq_true rfl) sh_2 ⟨by decide, rfl⟩ (Nat.le_refl _) (Nat.le_refl _) (qX7_readStop_f hg hs ?_)
    refine z_aload_n dX7_readFriends_34 rfl (by omega) ?_
    refine y_getz (k' := 6) fl_X7_27 rfl dX7_readFriends_35 sh_2 (by decide) PH_r6 ?_
    refine z_if_ne (tgt := 47) dX7_readFriends_38 (by decide) (fun _ => ?_) (fun q => False.elim (by omega))
    refine z_ret (v := none) dX7_readFriends_47 trivial (Nat.add_zero _).symm (Nat.add_zero _).symm rfl ?_
    unfold itF at h0
    rw [if_pos n0] at h0
    exact h0 _ _ _ (fun z => by have z2 : ks (h 3) (h 2 1) a = -9 := z; omega)
theorem qX7_readChild {l : Launch} {g h F : zH} {Q : zQt} {s a p k v : Int} (hg : zGd g) (hs : s = 4 ∨ s = 14) (hL : 0 ≤ h 2 1 ∧ h 2 1 ≤ 150) (hT : ∀ i, 0 ≤ i → i < h 2 1 → 0 ≤ h 3 i ∧ h 3 i ≤ 255) (hF : FO F) (a0 : 0 ≤ a) (a1 : a ≤ h 2 1) (p0 : 0 ≤ p) (h0 : ∀ a' k' v', ¬ (itC F (h 3) (h 2 1) a p).1 = -9 → Q none (SHL, g) (PH h s F a' (itC F (h 3) (h 2 1) a p).1 k' v' 1)) (h1 : ∀ p' k' v', (itC F (h 3) (h 2 1) a p).1 = -9 → Q none (SHL, g) (PH h s (itC F (h 3) (h 2 1) a p).2.1 (itC F (h 3) (h 2 1) a p).2.2 p' k' v' 0)) : zC l mX7_readChild [zr 2, zr s] (SHL, g) (PH h s F a p k v 0) Q := by
  refine z_method kX7_readChild.1 rfl (Nat.le_of_ble_eq_true rfl) (fun hok hh => ?_)
  obtain ⟨ss0, ss1, ss2, ss3, ss4, ss5, ss6, ss7, ss8, ss9, sg4, sg5, sg6, sg7, sg8, sg9, sg10, sg11, sg12⟩ := houseF hg hs
  obtain ⟨⟨f0, f1, f2, f3⟩, fp, fd, fc⟩ := id hF
  have u1 := ks_r (X := h 3) a1
  have w1 := ke_r (X := h 3) a1
  have u2 := ks_r (X := h 3) w1.2
  have w2 := ke_r (X := h 3) w1.2
  refine z_aload_n dX7_readChild_0 rfl (by omega) ?_
  refine z_aload_n dX7_readChild_1 rfl (by omega) ?_
  refine y_geti (k' := 3) fl_X7_94 rfl dX7_readChild_2 ss0 (by decide) (PH_s hs) ?_
  refine z_iconst dX7_readChild_5 ⟨by decide, by decide⟩ ?_
  refine z_icmp_lt (tgt := 13) dX7_readChild_6 (by decide) (fun c6 => ?_) (fun c6 => ?_)
  ·
    refine z_iconst dX7_readChild_13 ⟨by decide, by decide⟩ ?_
    refine y_putz (k' := 6) fl_X7_27 rfl dX7_readChild_14 sh_2 (by decide) (by omega) ?_
    rw [PH_w6]
    refine z_aload_n dX7_readChild_17 rfl (by omega) ?_
    refine z_iconst dX7_readChild_18 ⟨by decide, by decide⟩ ?_
    refine z_bipush dX7_readChild_19 ⟨by decide, by decide⟩ ?_
    refine z_callV (T := mX7_readNumber) (As := [_, _]) kX7_readNumber ml_X7_63 ⟨by decide, by decide⟩ dX7_readChild_21 rfl rfl (Nat.le_of_ble_eq_true rfl) sh_2 ⟨by decide, rfl⟩ (Nat.le_refl _) (Nat.le_refl _) (qX7_readNumber hg hs hL hT (by omega) (by omega) (by omega) (by omega) (fun k0 v0 n0 => ?_) (fun k0 v0 n0 => ?_))
    ·
      refine z_istore_n dX7_readChild_24 (by decide) rfl lss_3_2 ?_
      refine z_aload_n dX7_readChild_25 rfl (by omega) ?_
      refine z_callV (T := mX7_readStop) (As := []) kX7_readStop ml_X7_67 ⟨by decide, by decide⟩ dX7_readChild_26 rfl rfl (Nat.le_of_ble_eq_true rfl) sh_2 ⟨by decide, rfl⟩ (Nat.le_refl _) (Nat.le_refl _) (qX7_readStop hg hs hL hT (by omega) (by omega) (fun k1 v1 n1 => ?_) (fun k1 v1 n1 => ?_))
      ·
        refine z_aload_n dX7_readChild_29 rfl (by omega) ?_
        refine y_getz (k' := 6) fl_X7_27 rfl dX7_readChild_30 sh_2 (by decide) PH_r6 ?_
        refine z_if_ne (tgt := 41) dX7_readChild_33 (by decide) (fun q => False.elim (by omega)) (fun _ => ?_)
        refine z_aload_n dX7_readChild_36 rfl (by omega) ?_
        refine z_iload_n dX7_readChild_37 rfl ?_
        refine z_callV (T := mX4_addChild) (As := [_]) kX4_addChild ml_X7_97 ⟨by decide, by decide⟩ dX7_readChild_38 rfl rfl (Nat.le_of_ble_eq_true rfl) ss0 ⟨by decide, rfl⟩ (Nat.le_refl _) (Nat.le_refl _) (qX4_addChild hg hs (by omega) (by omega) ?_)
        refine z_ret (v := none) dX7_readChild_41 trivial (Nat.add_zero _).symm (Nat.add_zero _).symm rfl ?_
        unfold itC at h1
        rw [if_neg (by omega), if_neg (fun z => z n0), if_neg (fun z => z n1)] at h1
        exact h1 _ _ _ rfl
      ·
        refine z_aload_n dX7_readChild_29 rfl (by omega) ?_
        refine y_getz (k' := 6) fl_X7_27 rfl dX7_readChild_30 sh_2 (by decide) PH_r6 ?_
        refine z_if_ne (tgt := 41) dX7_readChild_33 (by decide) (fun _ => ?_) (fun q => False.elim (by omega))
        refine z_ret (v := none) dX7_readChild_41 trivial (Nat.add_zero _).symm (Nat.add_zero _).symm rfl ?_
        unfold itC at h0
        rw [if_neg (by omega), if_neg (fun z => z n0), if_pos n1] at h0
        exact h0 _ _ _ (fun z => by have z2 : ks (h 3) (h 2 1) (ke (h 3) (h 2 1) a) = -9 := z; omega)
    ·
      refine z_istore_n dX7_readChild_24 (by decide) rfl lss_3_2 ?_
      refine z_aload_n dX7_readChild_25 rfl (by omega) ?_
      refine z_callV (T := mX7_readStop) (As := []) kX7_readStop ml_X7_67 ⟨by decide, by decide⟩ dX7_readChild_26 rfl rfl (Nat.le_of_ble_eq_true rfl) sh_2 ⟨by decide, rfl⟩ (Nat.le_refl _) (Nat.le_refl _) (qX7_readStop_f hg hs ?_)
      refine z_aload_n dX7_readChild_29 rfl (by omega) ?_
      refine y_getz (k' := 6) fl_X7_27 rfl dX7_readChild_30 sh_2 (by decide) PH_r6 ?_
      refine z_if_ne (tgt := 41) dX7_readChild_33 (by decide) (fun _ => ?_) (fun q => False.elim (by omega))
      refine z_ret (v := none) dX7_readChild_41 trivial (Nat.add_zero _).symm (Nat.add_zero _).symm rfl ?_
      unfold itC at h0
      rw [if_neg (by omega), if_pos n0] at h0
      exact h0 _ _ _ (fun z => by have z2 : ks (h 3) (h 2 1) a = -9 := z; omega)
  ·
    refine z_iconst dX7_readChild_9 ⟨by decide, by decide⟩ ?_
    refine z_goto (tgt := 14) dX7_readChild_10 (by decide) ?_
    refine y_putz (k' := 6) fl_X7_27 rfl dX7_readChild_14 sh_2 (by decide) (by omega) ?_
    rw [PH_w6]
    refine z_aload_n dX7_readChild_17 rfl (by omega) ?_
    refine z_iconst dX7_readChild_18 ⟨by decide, by decide⟩ ?_
    refine z_bipush dX7_readChild_19 ⟨by decide, by decide⟩ ?_
    refine z_callV (T := mX7_readNumber) (As := [_, _]) kX7_readNumber ml_X7_63 ⟨by decide, by decide⟩ dX7_readChild_21 rfl rfl (Nat.le_of_ble_eq_true rfl) sh_2 ⟨by decide, rfl⟩ (Nat.le_refl _) (Nat.le_refl _) (qX7_readNumber_f hg hs ?_)
    refine z_istore_n dX7_readChild_24 (by decide) rfl lss_3_2 ?_
    refine z_aload_n dX7_readChild_25 rfl (by omega) ?_
    refine z_callV (T := mX7_readStop) (As := []) kX7_readStop ml_X7_67 ⟨by decide, by decide⟩ dX7_readChild_26 rfl rfl (Nat.le_of_ble_eq_true rfl) sh_2 ⟨by decide, rfl⟩ (Nat.le_refl _) (Nat.le_refl _) (qX7_readStop_f hg hs ?_)
    refine z_aload_n dX7_readChild_29 rfl (by omega) ?_
    refine y_getz (k' := 6) fl_X7_27 rfl dX7_readChild_30 sh_2 (by decide) PH_r6 ?_
    refine z_if_ne (tgt := 41) dX7_readChild_33 (by decide) (fun _ => ?_) (fun q => False.elim (by omega))
    refine z_ret (v := none) dX7_readChild_41 trivial (Nat.add_zero _).symm (Nat.add_zero _).symm rfl ?_
    unfold itC at h0
    rw [if_pos (by omega)] at h0
    exact h0 _ _ _ (fun z => by have z2 : p = -9 := z; omega)
theorem qX7_readRooms {l : Launch} {g h F : zH} {Q : zQt} {s a p k v : Int} (hg : zGd g) (hs : s = 4 ∨ s = 14) (hL : 0 ≤ h 2 1 ∧ h 2 1 ≤ 150) (hT : ∀ i, 0 ≤ i → i < h 2 1 → 0 ≤ h 3 i ∧ h 3 i ≤ 255) (hF : FO F) (a0 : 0 ≤ a) (a1 : a ≤ h 2 1) (p0 : 0 ≤ p) {i : Int} (h0 : ∀ a' k' v', ¬ (itR F (h 3) (h 2 1) a p i).1 = -9 → Q none (SHL, g) (PH h s F a' (itR F (h 3) (h 2 1) a p i).1 k' v' 1)) (h1 : ∀ p' k' v', (itR F (h 3) (h 2 1) a p i).1 = -9 → Q none (SHL, g) (PH h s (itR F (h 3) (h 2 1) a p i).2.1 (itR F (h 3) (h 2 1) a p i).2.2 p' k' v' 0)) : zC l mX7_readRooms [zr 2, zr s, zi i] (SHL, g) (PH h s F a p k v 0) Q := by
  refine z_method kX7_readRooms.1 rfl (Nat.le_of_ble_eq_true rfl) (fun hok hh => ?_)
  obtain ⟨ss0, ss1, ss2, ss3, ss4, ss5, ss6, ss7, ss8, ss9, sg4, sg5, sg6, sg7, sg8, sg9, sg10, sg11, sg12⟩ := houseF hg hs
  obtain ⟨⟨f0, f1, f2, f3⟩, fp, fd, fc⟩ := id hF
  have u1 := ks_r (X := h 3) a1
  have w1 := ke_r (X := h 3) a1
  have u2 := ks_r (X := h 3) w1.2
  have w2 := ke_r (X := h 3) w1.2
  refine z_aload_n dX7_readRooms_0 rfl (by omega) ?_
  refine z_iload_n dX7_readRooms_1 rfl ?_
  refine z_if_le (tgt := 9) dX7_readRooms_2 (by decide) (fun c2 => ?_) (fun c2 => ?_)
  ·
    refine z_iconst dX7_readRooms_9 ⟨by decide, by decide⟩ ?_
    refine y_putz (k' := 6) fl_X7_27 rfl dX7_readRooms_10 sh_2 (by decide) (by omega) ?_
    rw [PH_w6]
    refine z_aload_n dX7_readRooms_13 rfl (by omega) ?_
    refine z_iconst dX7_readRooms_14 ⟨by decide, by decide⟩ ?_
    refine z_bipush dX7_readRooms_15 ⟨by decide, by decide⟩ ?_
    refine z_callV (T := mX7_readNumber) (As := [_, _]) kX7_readNumber ml_X7_63 ⟨by decide, by decide⟩ dX7_readRooms_17 rfl rfl (Nat.le_of_ble_eq_true rfl) sh_2 ⟨by decide, rfl⟩ (Nat.le_refl _) (Nat.le_refl _) (qX7_readNumber hg hs hL hT (by omega) (by omega) (by omega) (by omega) (fun k0 v0 n0 => ?_) (fun k0 v0 n0 => ?_))
    ·
      refine z_istore_n dX7_readRooms_20 (by decide) rfl lss_4_3 ?_
      refine z_aload_n dX7_readRooms_21 rfl (by omega) ?_
      refine z_callV (T := mX7_readStop) (As := []) kX7_readStop ml_X7_67 ⟨by decide, by decide⟩ dX7_readRooms_22 rfl rfl (Nat.le_of_ble_eq_true rfl) sh_2 ⟨by decide, rfl⟩ (Nat.le_refl _) (Nat.le_refl _) (qX7_readStop hg hs hL hT (by omega) (by omega) (fun k1 v1 n1 => ?_) (fun k1 v1 n1 => ?_))
      ·
        refine z_aload_n dX7_readRooms_25 rfl (by omega) ?_
        refine y_getz (k' := 6) fl_X7_27 rfl dX7_readRooms_26 sh_2 (by decide) PH_r6 ?_
        refine z_if_ne (tgt := 37) dX7_readRooms_29 (by decide) (fun q => False.elim (by omega)) (fun _ => ?_)
        refine z_aload_n dX7_readRooms_32 rfl (by omega) ?_
        refine z_iload_n dX7_readRooms_33 rfl ?_
        refine y_puti (k' := 0) fl_X7_70 rfl dX7_readRooms_34 ss0 (by decide)  ?_
        rw [PH_ws hs]
        refine z_ret (v := none) dX7_readRooms_37 trivial (Nat.add_zero _).symm (Nat.add_zero _).symm rfl ?_
        unfold itR at h1
        rw [if_neg (by omega), if_neg (fun z => z n0), if_neg (fun z => z n1)] at h1
        exact h1 _ _ _ rfl
      ·
        refine z_aload_n dX7_readRooms_25 rfl (by omega) ?_
        refine y_getz (k' := 6) fl_X7_27 rfl dX7_readRooms_26 sh_2 (by decide) PH_r6 ?_
        refine z_if_ne (tgt := 37) dX7_readRooms_29 (by decide) (fun _ => ?_) (fun q => False.elim (by omega))
        refine z_ret (v := none) dX7_readRooms_37 trivial (Nat.add_zero _).symm (Nat.add_zero _).symm rfl ?_
        unfold itR at h0
        rw [if_neg (by omega), if_neg (fun z => z n0), if_pos n1] at h0
        exact h0 _ _ _ (fun z => by have z2 : ks (h 3) (h 2 1) (ke (h 3) (h 2 1) a) = -9 := z; omega)
    ·
      refine z_istore_n dX7_readRooms_20 (by decide) rfl lss_4_3 ?_
      refine z_aload_n dX7_readRooms_21 rfl (by omega) ?_
      refine z_callV (T := mX7_readStop) (As := []) kX7_readStop ml_X7_67 ⟨by decide, by decide⟩ dX7_readRooms_22 rfl rfl (Nat.le_of_ble_eq_true rfl) sh_2 ⟨by decide, rfl⟩ (Nat.le_refl _) (Nat.le_refl _) (qX7_readStop_f hg hs ?_)
      refine z_aload_n dX7_readRooms_25 rfl (by omega) ?_
      refine y_getz (k' := 6) fl_X7_27 rfl dX7_readRooms_26 sh_2 (by decide) PH_r6 ?_
      refine z_if_ne (tgt := 37) dX7_readRooms_29 (by decide) (fun _ => ?_) (fun q => False.elim (by omega))
      refine z_ret (v := none) dX7_readRooms_37 trivial (Nat.add_zero _).symm (Nat.add_zero _).symm rfl ?_
      unfold itR at h0
      rw [if_neg (by omega), if_pos n0] at h0
      exact h0 _ _ _ (fun z => by have z2 : ks (h 3) (h 2 1) a = -9 := z; omega)
  ·
    refine z_iconst dX7_readRooms_5 ⟨by decide, by decide⟩ ?_
    refine z_goto (tgt := 10) dX7_readRooms_6 (by decide) ?_
    refine y_putz (k' := 6) fl_X7_27 rfl dX7_readRooms_10 sh_2 (by decide) (by omega) ?_
    rw [PH_w6]
    refine z_aload_n dX7_readRooms_13 rfl (by omega) ?_
    refine z_iconst dX7_readRooms_14 ⟨by decide, by decide⟩ ?_
    refine z_bipush dX7_readRooms_15 ⟨by decide, by decide⟩ ?_
    refine z_callV (T := mX7_readNumber) (As := [_, _]) kX7_readNumber ml_X7_63 ⟨by decide, by decide⟩ dX7_readRooms_17 rfl rfl (Nat.le_of_ble_eq_true rfl) sh_2 ⟨by decide, rfl⟩ (Nat.le_refl _) (Nat.le_refl _) (qX7_readNumber_f hg hs ?_)
    refine z_istore_n dX7_readRooms_20 (by decide) rfl lss_4_3 ?_
    refine z_aload_n dX7_readRooms_21 rfl (by omega) ?_
    refine z_callV (T := mX7_readStop) (As := []) kX7_readStop ml_X7_67 ⟨by decide, by decide⟩ dX7_readRooms_22 rfl rfl (Nat.le_of_ble_eq_true rfl) sh_2 ⟨by decide, rfl⟩ (Nat.le_refl _) (Nat.le_refl _) (qX7_readStop_f hg hs ?_)
    refine z_aload_n dX7_readRooms_25 rfl (by omega) ?_
    refine y_getz (k' := 6) fl_X7_27 rfl dX7_readRooms_26 sh_2 (by decide) PH_r6 ?_
    refine z_if_ne (tgt := 37) dX7_readRooms_29 (by decide) (fun _ => ?_) (fun q => False.elim (by omega))
    refine z_ret (v := none) dX7_readRooms_37 trivial (Nat.add_zero _).symm (Nat.add_zero _).symm rfl ?_
    unfold itR at h0
    rw [if_pos (by omega)] at h0
    exact h0 _ _ _ (fun z => by have z2 : p = -9 := z; omega)
theorem qX7_readItem {l : Launch} {g h F : zH} {Q : zQt} {s a p k v : Int} (hg : zGd g) (hs : s = 4 ∨ s = 14) (hL : 0 ≤ h 2 1 ∧ h 2 1 ≤ 150) (hT : ∀ i, 0 ≤ i → i < h 2 1 → 0 ≤ h 3 i ∧ h 3 i ≤ 255) {i c : Int} (hF : FO F) (a0 : 0 ≤ a) (a1 : a ≤ h 2 1) (p0 : 0 ≤ p) (hkv : KV c k v) (h0 : ∀ a' k' v', ¬ (itm F (h 3) (h 2 1) a p i c).1 = -9 → Q none (SHL, g) (PH h s F a' (itm F (h 3) (h 2 1) a p i c).1 k' v' 1)) (h1 : ∀ p' k' v', (itm F (h 3) (h 2 1) a p i c).1 = -9 → Q none (SHL, g) (PH h s (itm F (h 3) (h 2 1) a p i c).2.1 (itm F (h 3) (h 2 1) a p i c).2.2 p' k' v' 0)) : zC l mX7_readItem [zr 2, zr s, zi i] (SHL, g) (PH h s F a p k v 0) Q := by
  refine z_method kX7_readItem.1 rfl (Nat.le_of_ble_eq_true rfl) (fun hok hh => ?_)
  obtain ⟨ss0, ss1, ss2, ss3, ss4, ss5, ss6, ss7, ss8, ss9, sg4, sg5, sg6, sg7, sg8, sg9, sg10, sg11, sg12⟩ := houseF hg hs
  unfold KV at hkv
  refine z_aload_n dX7_readItem_0 rfl (by omega) ?_
  refine y_geti (k' := 4) fl_X7_34 rfl dX7_readItem_1 sh_2 (by decide) PH_r4 ?_
  refine z_iconst dX7_readItem_4 ⟨by decide, by decide⟩ ?_
  refine z_icmp_ne (tgt := 15) dX7_readItem_5 (by decide) (fun c5 => ?_) (fun c5 => ?_)
  ·
    refine z_iconst dX7_readItem_15 ⟨by decide, by decide⟩ ?_
    refine z_istore_n dX7_readItem_16 (by decide) rfl lss_4_3 ?_
    refine z_iload_n dX7_readItem_17 rfl ?_
    refine z_lsw (tgt := 109) (off := 91) dX7_readItem_18 (by decide) (by decide) (by decide) ?_
    refine z_aload_n dX7_readItem_109 rfl (by omega) ?_
    refine z_iconst dX7_readItem_110 ⟨by decide, by decide⟩ ?_
    refine y_putz (k' := 6) fl_X7_27 rfl dX7_readItem_111 sh_2 (by decide) (by omega) ?_
    rw [PH_w6]
    refine z_ret (v := none) dX7_readItem_114 trivial (Nat.add_zero _).symm (Nat.add_zero _).symm rfl ?_
    have e : itm F (h 3) (h 2 1) a p i c = (p, F, a) := by
      unfold itm
      rw [if_neg (by omega), if_neg (by omega), if_neg (by omega), if_neg (by omega), if_neg (by omega)]
    rw [e] at h0
    exact h0 _ _ _ (by show ¬ p = (-9 : Int); omega)
  ·
    refine z_aload_n dX7_readItem_8 rfl (by omega) ?_
    refine y_geti (k' := 5) fl_X7_44 rfl dX7_readItem_9 sh_2 (by decide) PH_r5 ?_
    refine z_goto (tgt := 16) dX7_readItem_12 (by decide) ?_
    refine z_istore_n dX7_readItem_16 (by decide) rfl lss_4_3 ?_
    refine z_iload_n dX7_readItem_17 rfl ?_
    by_cases s99 : v = 99
    ·
      refine z_lsw (tgt := 101) (off := 83) dX7_readItem_18 (by decide) (by rw [s99]; decide) (by decide) ?_
      have e : itm F (h 3) (h 2 1) a p i c = itC F (h 3) (h 2 1) a p := by
        unfold itm
        rw [if_pos (by omega)]
      rw [e] at h0 h1
      refine z_aload_n dX7_readItem_101 rfl (by omega) ?_
      refine z_aload_n dX7_readItem_102 rfl (by omega) ?_
      refine z_callV (T := mX7_readChild) (As := [_]) kX7_readChild ml_X7_60 ⟨by decide, by decide⟩ dX7_readItem_103 rfl rfl (Nat.le_of_ble_eq_true rfl) sh_2 ⟨by decide, rfl⟩ (Nat.le_refl _) (Nat.le_refl _) (qX7_readChild hg hs hL hT hF (by omega) (by omega) (by omega) (fun a9 k9 v9 n9 => ?_) (fun p9 k9 v9 n9 => ?_))
      ·
        refine z_goto (tgt := 114) dX7_readItem_106 (by decide) ?_
        refine z_ret (v := none) dX7_readItem_114 trivial (Nat.add_zero _).symm (Nat.add_zero _).symm rfl ?_
        exact h0 _ _ _ n9
      ·
        refine z_goto (tgt := 114) dX7_readItem_106 (by decide) ?_
        refine z_ret (v := none) dX7_readItem_114 trivial (Nat.add_zero _).symm (Nat.add_zero _).symm rfl ?_
        exact h1 _ _ _ n9
    by_cases s100 : v = 100
    ·
      refine z_lsw (tgt := 85) (off := 67) dX7_readItem_18 (by decide) (by rw [s100]; decide) (by decide) ?_
      have e : itm F (h 3) (h 2 1) a p i c = itD F (h 3) (h 2 1) a p := by
        unfold itm
        rw [if_neg (by omega), if_pos (by omega)]
      rw [e] at h0 h1
      refine z_aload_n dX7_readItem_85 rfl (by omega) ?_
      refine z_aload_n dX7_readItem_86 rfl (by omega) ?_
      refine z_callV (T := mX7_readDirector) (As := [_]) kX7_readDirector ml_X7_54 ⟨by decide, by decide⟩ dX7_readItem_87 rfl rfl (Nat.le_of_ble_eq_true rfl) sh_2 ⟨by decide, rfl⟩ (Nat.le_refl _) (Nat.le_refl _) (qX7_readDirector hg hs hL hT hF (by omega) (by omega) (by omega) (fun a9 k9 v9 n9 => ?_) (fun p9 k9 v9 n9 => ?_))
      ·
        refine z_goto (tgt := 114) dX7_readItem_90 (by decide) ?_
        refine z_ret (v := none) dX7_readItem_114 trivial (Nat.add_zero _).symm (Nat.add_zero _).symm rfl ?_
        exact h0 _ _ _ n9
      ·
        refine z_goto (tgt := 114) dX7_readItem_90 (by decide) ?_
        refine z_ret (v := none) dX7_readItem_114 trivial (Nat.add_zero _).symm (Nat.add_zero _).symm rfl ?_
        exact h1 _ _ _ n9
    by_cases s102 : v = 102
    ·
      refine z_lsw (tgt := 93) (off := 75) dX7_readItem_18 (by decide) (by rw [s102]; decide) (by decide) ?_
      have e : itm F (h 3) (h 2 1) a p i c = itF F (h 3) (h 2 1) a p := by
        unfold itm
        rw [if_neg (by omega), if_neg (by omega), if_pos (by omega)]
      rw [e] at h0 h1
      refine z_aload_n dX7_readItem_93 rfl (by omega) ?_
      refine z_aload_n dX7_readItem_94 rfl (by omega) ?_
      refine z_callV (T := mX7_readFriends) (As := [_]) kX7_readFriends ml_X7_57 ⟨by decide, by decide⟩ dX7_readItem_95 rfl rfl (Nat.le_of_ble_eq_true rfl) sh_2 ⟨by decide, rfl⟩ (Nat.le_refl _) (Nat.le_refl _) (qX7_readFriends hg hs hL hT hF (by omega) (by omega) (by omega) (fun a9 k9 v9 n9 => ?_) (fun p9 k9 v9 n9 => ?_))
      ·
        refine z_goto (tgt := 114) dX7_readItem_98 (by decide) ?_
        refine z_ret (v := none) dX7_readItem_114 trivial (Nat.add_zero _).symm (Nat.add_zero _).symm rfl ?_
        exact h0 _ _ _ n9
      ·
        refine z_goto (tgt := 114) dX7_readItem_98 (by decide) ?_
        refine z_ret (v := none) dX7_readItem_114 trivial (Nat.add_zero _).symm (Nat.add_zero _).symm rfl ?_
        exact h1 _ _ _ n9
    by_cases s112 : v = 112
    ·
      refine z_lsw (tgt := 77) (off := 59) dX7_readItem_18 (by decide) (by rw [s112]; decide) (by decide) ?_
      have e : itm F (h 3) (h 2 1) a p i c = itP F (h 3) (h 2 1) a p := by
        unfold itm
        rw [if_neg (by omega), if_neg (by omega), if_neg (by omega), if_pos (by omega)]
      rw [e] at h0 h1
      refine z_aload_n dX7_readItem_77 rfl (by omega) ?_
      refine z_aload_n dX7_readItem_78 rfl (by omega) ?_
      refine z_callV (T := mX7_readPath) (As := [_]) kX7_readPath ml_X7_50 ⟨by decide, by decide⟩ dX7_readItem_79 rfl rfl (Nat.le_of_ble_eq_true rfl) sh_2 ⟨by decide, rfl⟩ (Nat.le_refl _) (Nat.le_refl _) (qX7_readPath hg hs hL hT hF (by omega) (by omega) (by omega) (fun a9 k9 v9 n9 => ?_) (fun p9 k9 v9 n9 => ?_))
      ·
        refine z_goto (tgt := 114) dX7_readItem_82 (by decide) ?_
        refine z_ret (v := none) dX7_readItem_114 trivial (Nat.add_zero _).symm (Nat.add_zero _).symm rfl ?_
        exact h0 _ _ _ n9
      ·
        refine z_goto (tgt := 114) dX7_readItem_82 (by decide) ?_
        refine z_ret (v := none) dX7_readItem_114 trivial (Nat.add_zero _).symm (Nat.add_zero _).symm rfl ?_
        exact h1 _ _ _ n9
    by_cases s114 : v = 114
    ·
      refine z_lsw (tgt := 68) (off := 50) dX7_readItem_18 (by decide) (by rw [s114]; decide) (by decide) ?_
      have e : itm F (h 3) (h 2 1) a p i c = itR F (h 3) (h 2 1) a p i := by
        unfold itm
        rw [if_neg (by omega), if_neg (by omega), if_neg (by omega), if_neg (by omega), if_pos (by omega)]
      rw [e] at h0 h1
      refine z_aload_n dX7_readItem_68 rfl (by omega) ?_
      refine z_aload_n dX7_readItem_69 rfl (by omega) ?_
      refine z_iload_n dX7_readItem_70 rfl ?_
      refine z_callV (T := mX7_readRooms) (As := [_, _]) kX7_readRooms ml_X7_47 ⟨by decide, by decide⟩ dX7_readItem_71 rfl rfl (Nat.le_of_ble_eq_true rfl) sh_2 ⟨by decide, rfl⟩ (Nat.le_refl _) (Nat.le_refl _) (qX7_readRooms hg hs hL hT hF (by omega) (by omega) (by omega) (fun a9 k9 v9 n9 => ?_) (fun p9 k9 v9 n9 => ?_))
      ·
        refine z_goto (tgt := 114) dX7_readItem_74 (by decide) ?_
        refine z_ret (v := none) dX7_readItem_114 trivial (Nat.add_zero _).symm (Nat.add_zero _).symm rfl ?_
        exact h0 _ _ _ n9
      ·
        refine z_goto (tgt := 114) dX7_readItem_74 (by decide) ?_
        refine z_ret (v := none) dX7_readItem_114 trivial (Nat.add_zero _).symm (Nat.add_zero _).symm rfl ?_
        exact h1 _ _ _ n9
    refine z_lsw (tgt := 109) (off := 91) dX7_readItem_18 (by decide) (by simp only [Op.lookupswitch.offset_cons, if_neg (Ne.symm s99), if_neg (Ne.symm s100), if_neg (Ne.symm s102), if_neg (Ne.symm s112), if_neg (Ne.symm s114)]; rfl) (by decide) ?_
    refine z_aload_n dX7_readItem_109 rfl (by omega) ?_
    refine z_iconst dX7_readItem_110 ⟨by decide, by decide⟩ ?_
    refine y_putz (k' := 6) fl_X7_27 rfl dX7_readItem_111 sh_2 (by decide) (by omega) ?_
    rw [PH_w6]
    refine z_ret (v := none) dX7_readItem_114 trivial (Nat.add_zero _).symm (Nat.add_zero _).symm rfl ?_
    have e : itm F (h 3) (h 2 1) a p i c = (p, F, a) := by
      unfold itm
      rw [if_neg (by omega), if_neg (by omega), if_neg (by omega), if_neg (by omega), if_neg (by omega)]
    rw [e] at h0
    exact h0 _ _ _ (by show ¬ p = (-9 : Int); omega)
theorem PH_self (h : zH) {s : Int} (hs : s = 4 ∨ s = 14) : PH h s (fun i b => h (s + i) b) (h 2 2) (h 2 3) (h 2 4) (h 2 5) (h 2 6) = h := by
  funext x y
  unfold PH
  by_cases z : x = 2 ∧ 2 ≤ y ∧ y ≤ 6
  · rw [if_pos z]
    obtain ⟨z0, z1, z2⟩ := z
    subst z0
    rcases (show y = 2 ∨ y = 3 ∨ y = 4 ∨ y = 5 ∨ y = 6 by omega) with rfl | rfl | rfl | rfl | rfl <;> rfl
  · rw [if_neg z]
    by_cases w : s ≤ x ∧ x ≤ s + 9
    · rw [if_pos w]
      show h (s + (x - s)) y = h x y
      rw [show s + (x - s) = x by omega]
    · rw [if_neg w]
theorem lwX7_into {l : Launch} {g h : zH} {Q : zQt} {s : Int} (hg : zGd g) (hs : s = 4 ∨ s = 14) (hL : 0 ≤ h 2 1 ∧ h 2 1 ≤ 150) (hT : ∀ i, 0 ≤ i → i < h 2 1 → 0 ≤ h 3 i ∧ h 3 i ≤ 255) {r : Int × zH × Int} (h1 : r.1 = -9 → ∀ a p k v, Q (some (zi r.2.2)) (SHL, g) (PH h s r.2.1 a p k v 0)) (h0 : ¬ r.1 = -9 → ∀ F a p k v, Q (some (zi (-10 - r.1))) (SHL, g) (PH h s F a p k v 1)) :
    ∀ (n : Nat) (F : zH) (i A k v : Int), FO F → 0 ≤ i → i ≤ A → A ≤ h 2 1 → (i = 0 → F 0 1 = 0 ∧ F 0 2 = 0) → (h 2 1 - A).toNat < n → KV (kc (h 3) (h 2 1) A) k v → prs (h 3) (h 2 1) n F i A = r → zW zX0 l mX7_readInto ((SHL, g).1.length + zmc mX7_readInto) (ztot (SHL, g) + zms mX7_readInto) Q 20 [some (zr 2), some (zr s), some (zi i)] [] (SHL, g) (PH h s F (ke (h 3) (h 2 1) A) (ks (h 3) (h 2 1) A) k v 0) := by
  obtain ⟨ss0, ss1, ss2, ss3, ss4, ss5, ss6, ss7, ss8, ss9, sg4, sg5, sg6, sg7, sg8, sg9, sg10, sg11, sg12⟩ := houseF hg hs
  intro n
  induction n with
  | zero => intro F i A k v hF i0 i1 A1 hi hn; omega
  | succ n ih =>
    intro F i A k v hF i0 i1 A1 hi hn hkv hr
    have u1 := ks_r (X := h 3) A1
    have w1 := ke_r (X := h 3) A1
    have io := IO_m (X := h 3) (c := kc (h 3) (h 2 1) A) hF (show 0 ≤ ke (h 3) (h 2 1) A by omega) w1.2 (show 0 ≤ ks (h 3) (h 2 1) A by omega) w1.1 i0 hi
    have e0 : prs (h 3) (h 2 1) (n + 1) F i A = if kc (h 3) (h 2 1) A = -1 then (-9, F, i) else if (itm F (h 3) (h 2 1) (ke (h 3) (h 2 1) A) (ks (h 3) (h 2 1) A) i (kc (h 3) (h 2 1) A)).1 = -9 then prs (h 3) (h 2 1) n (itm F (h 3) (h 2 1) (ke (h 3) (h 2 1) A) (ks (h 3) (h 2 1) A) i (kc (h 3) (h 2 1) A)).2.1 (i + 1) (itm F (h 3) (h 2 1) (ke (h 3) (h 2 1) A) (ks (h 3) (h 2 1) A) i (kc (h 3) (h 2 1) A)).2.2 else ((itm F (h 3) (h 2 1) (ke (h 3) (h 2 1) A) (ks (h 3) (h 2 1) A) i (kc (h 3) (h 2 1) A)).1, F, i) := rfl
    rw [e0] at hr
    clear e0
    refine z_iload_n dX7_readInto_20 rfl ?_
    refine z_sipush dX7_readInto_21 ⟨by decide, by decide⟩ ?_
    refine z_icmp_gt (tgt := 65) dX7_readInto_24 (by decide) (fun q => False.elim (by omega)) (fun _ => ?_)
    refine z_aload_n dX7_readInto_27 rfl (by omega) ?_
    refine y_geti (k' := 4) fl_X7_34 rfl dX7_readInto_28 sh_2 (by decide) PH_r4 ?_
    refine z_if_eq (tgt := 65) dX7_readInto_31 (by decide) (fun c31 => ?_) (fun c31 => ?_)
    ·
      have z : kc (h 3) (h 2 1) A = -1 := by unfold KV at hkv; omega
      rw [if_pos z] at hr
      subst hr
      refine z_iload_n dX7_readInto_65 rfl ?_
      refine z_ret (v := some (zi _)) dX7_readInto_66 trivial (Nat.add_zero _).symm (Nat.add_zero _).symm rfl ?_
      exact h1 rfl _ _ _ _
    ·
      refine z_aload_n dX7_readInto_34 rfl (by omega) ?_
      refine z_aload_n dX7_readInto_35 rfl (by omega) ?_
      refine z_iload_n dX7_readInto_36 rfl ?_
      refine z_callV (T := mX7_readItem) (As := [_, _]) kX7_readItem ml_X7_37 ⟨by decide, by decide⟩ dX7_readInto_37 rfl rfl (Nat.le_of_ble_eq_true rfl) sh_2 ⟨by decide, rfl⟩ (Nat.le_refl _) (Nat.le_refl _) (qX7_readItem hg hs hL hT hF (by omega) (by omega) (by omega) hkv (fun a9 k9 v9 n37 => ?_) (fun p9 k9 v9 n37 => ?_))
      ·
        have io2 := io.2 n37
        refine z_aload_n dX7_readInto_40 rfl (by omega) ?_
        refine y_getz (k' := 6) fl_X7_27 rfl dX7_readInto_41 sh_2 (by decide) PH_r6 ?_
        refine z_if_eq (tgt := 55) dX7_readInto_44 (by decide) (fun q => False.elim (by omega)) (fun _ => ?_)
        refine z_bipush dX7_readInto_47 ⟨by decide, by decide⟩ ?_
        refine z_aload_n dX7_readInto_49 rfl (by omega) ?_
        refine y_geti (k' := 3) fl_X7_41 rfl dX7_readInto_50 sh_2 (by decide) PH_r3 ?_
        refine y_isub dX7_readInto_53 (by omega) (by omega) ?_
        refine z_ret (v := some (zi _)) dX7_readInto_54 trivial (Nat.add_zero _).symm (Nat.add_zero _).symm rfl ?_
        have z : ¬ kc (h 3) (h 2 1) A = -1 := by unfold KV at hkv; omega
        rw [if_neg z, if_neg n37] at hr
        subst hr
        exact h0 n37 _ _ _ _ _
      ·
        have io1 := io.1 n37
        refine z_aload_n dX7_readInto_40 rfl (by omega) ?_
        refine y_getz (k' := 6) fl_X7_27 rfl dX7_readInto_41 sh_2 (by decide) PH_r6 ?_
        refine z_if_eq (tgt := 55) dX7_readInto_44 (by decide) (fun _ => ?_) (fun q => False.elim (by omega))
        refine y_iinc dX7_readInto_55 (by decide) rfl rfl (by omega) (by omega) lss_3_2 ?_
        refine z_aload_n dX7_readInto_58 rfl (by omega) ?_
        refine z_callV (T := mX7_nextToken) (As := []) kX7_nextToken ml_X7_31 ⟨by decide, by decide⟩ dX7_readInto_59 rfl rfl (Nat.le_of_ble_eq_true rfl) sh_2 ⟨by decide, rfl⟩ (Nat.le_refl _) (Nat.le_refl _) (qX7_nextToken hg hs hL hT (by omega) (by omega) (fun k' v' hkv2 => ?_))
        refine z_goto (tgt := 20) dX7_readInto_62 (by decide) ?_
        have z : ¬ kc (h 3) (h 2 1) A = -1 := by unfold KV at hkv; omega
        rw [if_neg z, if_pos n37] at hr
        have lt := ke_lt (X := h 3) A1 z
        have io1 := io.1 n37
        exact ih _ (i + 1) _ k' v' io1.1 (by omega) (by omega) io1.2.2 (by omega) (by omega) hkv2 hr
theorem qX7_readInto {l : Launch} {g h : zH} {Q : zQt} {s : Int} (hg : zGd g) (hs : s = 4 ∨ s = 14) (hL : 0 ≤ h 2 1 ∧ h 2 1 ≤ 150) (hT : ∀ i, 0 ≤ i → i < h 2 1 → 0 ≤ h 3 i ∧ h 3 i ≤ 255) (h1 : (prs (h 3) (h 2 1) ((h 2 1).toNat + 1) (tn (fun i b => h (s + i) b)) 0 0).1 = -9 → ∀ a p k v, Q (some (zi (prs (h 3) (h 2 1) ((h 2 1).toNat + 1) (tn (fun i b => h (s + i) b)) 0 0).2.2)) (SHL, g) (PH h s (prs (h 3) (h 2 1) ((h 2 1).toNat + 1) (tn (fun i b => h (s + i) b)) 0 0).2.1 a p k v 0)) (h0 : ¬ (prs (h 3) (h 2 1) ((h 2 1).toNat + 1) (tn (fun i b => h (s + i) b)) 0 0).1 = -9 → ∀ F a p k v, Q (some (zi (-10 - (prs (h 3) (h 2 1) ((h 2 1).toNat + 1) (tn (fun i b => h (s + i) b)) 0 0).1))) (SHL, g) (PH h s F a p k v 1)) : zC l mX7_readInto [zr 2, zr s] (SHL, g) h Q := by
  obtain ⟨ss0, ss1, ss2, ss3, ss4, ss5, ss6, ss7, ss8, ss9, sg4, sg5, sg6, sg7, sg8, sg9, sg10, sg11, sg12⟩ := houseF hg hs
  refine z_method kX7_readInto.1 rfl (Nat.le_of_ble_eq_true rfl) (fun hok hh => ?_)
  have K : zW zX0 l mX7_readInto ((SHL, g).1.length + zmc mX7_readInto) (ztot (SHL, g) + zms mX7_readInto) Q 0 [some (zr 2), some (zr s), none] [] (SHL, g) (PH h s (fun i b => h (s + i) b) (h 2 2) (h 2 3) (h 2 4) (h 2 5) (h 2 6)) := by
    refine z_aload_n dX7_readInto_0 rfl (by omega) ?_
    refine z_callV (T := mX4_tellNothing) (As := []) kX4_tellNothing ml_X7_19 ⟨by decide, by decide⟩ dX7_readInto_1 rfl rfl (Nat.le_of_ble_eq_true rfl) ss0 ⟨by decide, rfl⟩ (Nat.le_refl _) (Nat.le_refl _) (qX4_tellNothing hg hs ?_)
    refine z_aload_n dX7_readInto_4 rfl (by omega) ?_
    refine z_iconst dX7_readInto_5 ⟨by decide, by decide⟩ ?_
    refine y_puti (k' := 2) fl_X7_24 rfl dX7_readInto_6 sh_2 (by decide)  ?_
    rw [PH_w2]
    refine z_aload_n dX7_readInto_9 rfl (by omega) ?_
    refine z_iconst dX7_readInto_10 ⟨by decide, by decide⟩ ?_
    refine y_putz (k' := 6) fl_X7_27 rfl dX7_readInto_11 sh_2 (by decide) (by omega) ?_
    rw [PH_w6]
    refine z_iconst dX7_readInto_14 ⟨by decide, by decide⟩ ?_
    refine z_istore_n dX7_readInto_15 (by decide) rfl lss_3_2 ?_
    refine z_aload_n dX7_readInto_16 rfl (by omega) ?_
    refine z_callV (T := mX7_nextToken) (As := []) kX7_nextToken ml_X7_31 ⟨by decide, by decide⟩ dX7_readInto_17 rfl rfl (Nat.le_of_ble_eq_true rfl) sh_2 ⟨by decide, rfl⟩ (Nat.le_refl _) (Nat.le_refl _) (qX7_nextToken hg hs hL hT (by omega) (by omega) (fun k' v' hkv => ?_))
    exact lwX7_into hg hs hL hT h1 h0 _ _ 0 0 k' v' (FO_tn _) (by omega) (by omega) (by omega) (fun _ => ⟨by unfold tn; rw [zup_ne (by omega), zup_ne (by omega), zup_same], by unfold tn; rw [zup_ne (by omega), zup_same]⟩) (by omega) hkv rfl
  rw [PH_self h hs] at K
  exact K
