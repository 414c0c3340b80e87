/-! The reference: its items are read. -/
/-- the reference's rows tell the same house -/
def RM (F G : zH) : Prop := G 240 21 = F 0 0 ∧ G 240 22 = F 0 1 ∧ G 240 24 = F 0 2 ∧ G 240 28 = F 0 3 ∧ (∀ p, 0 ≤ p → p < F 0 1 → G 250 (3 * p) = F 1 p ∧ G 250 (3 * p + 1) = F 2 p ∧ G 250 (3 * p + 2) = F 3 p) ∧ (∀ d, 0 ≤ d → d < F 0 2 → G 251 (3 * d) = F 4 d ∧ G 251 (3 * d + 1) = F 6 d ∧ G 251 (3 * d + 2) = F 8 d ∧ G 252 d = F 7 d ∧ G 253 d = F 5 d) ∧ (∀ i, 0 ≤ i → i < F 0 3 → G 254 i = F 9 i)
theorem RM_P {F G : zH} (rm : RM F G) (n0 : 0 ≤ F 0 1) (x y z : Int) : RM (zup (zup (zup (zup F 1 (F 0 1) x) 2 (F 0 1) y) 3 (F 0 1) z) 0 1 (F 0 1 + 1)) (zup (zup (zup (zup G 250 (3 * F 0 1) x) 250 (3 * F 0 1 + 1) y) 250 (3 * F 0 1 + 2) z) 240 22 (F 0 1 + 1)) := by
  obtain ⟨r1, r2, r3, r4, rp, rd, rc⟩ := rm
  obtain ⟨A, hA⟩ : ∃ A, A = zup (zup (zup (zup F 1 (F 0 1) x) 2 (F 0 1) y) 3 (F 0 1) z) 0 1 (F 0 1 + 1) := ⟨_, rfl⟩
  obtain ⟨B, hB⟩ : ∃ B, B = zup (zup (zup (zup G 250 (3 * F 0 1) x) 250 (3 * F 0 1 + 1) y) 250 (3 * F 0 1 + 2) z) 240 22 (F 0 1 + 1) := ⟨_, rfl⟩
  rw [← hA, ← hB]
  have a0 : A 0 1 = F 0 1 + 1 := by rw [hA, zup_same]
  have an : ∀ r b, ¬ (r = 0 ∧ b = 1) → ¬ (1 ≤ r ∧ r ≤ 3 ∧ b = F 0 1) → A r b = F r b := fun r b n1 n2 => by rw [hA, zup_ne n1, zup_ne (by omega), zup_ne (by omega), zup_ne (by omega)]
  have bn : ∀ r b, ¬ (r = 240 ∧ b = 22) → ¬ (r = 250 ∧ 3 * F 0 1 ≤ b ∧ b ≤ 3 * F 0 1 + 2) → B r b = G r b := fun r b n1 n2 => by rw [hB, zup_ne n1, zup_ne (by omega), zup_ne (by omega), zup_ne (by omega)]
  have a2 := an 0 2 (by omega) (by omega)
  have a3 := an 0 3 (by omega) (by omega)
  refine ⟨by rw [an 0 0 (by omega) (by omega), bn 240 21 (by omega) (by omega)]; exact r1, by rw [a0, hB, zup_same], by rw [a2, bn 240 24 (by omega) (by omega)]; exact r3, by rw [a3, bn 240 28 (by omega) (by omega)]; exact r4, fun p p0 p1 => ?_, fun d d0 d1 => ?_, fun i i0 i1 => ?_⟩
  · by_cases e : p = F 0 1
    · have v1 : A 1 p = x := by rw [hA, zup_ne (by omega), zup_ne (by omega), zup_ne (by omega), e, zup_same]
      have v2 : A 2 p = y := by rw [hA, zup_ne (by omega), zup_ne (by omega), e, zup_same]
      have v3 : A 3 p = z := by rw [hA, zup_ne (by omega), e, zup_same]
      rw [v1, v2, v3, e, hB]
      exact ⟨by rw [zup_ne (by omega), zup_ne (by omega), zup_ne (by omega), zup_same], by rw [zup_ne (by omega), zup_ne (by omega), zup_same], by rw [zup_ne (by omega), zup_same]⟩
    · rw [bn 250 _ (by omega) (by omega), bn 250 _ (by omega) (by omega), bn 250 _ (by omega) (by omega), an 1 p (by omega) (by omega), an 2 p (by omega) (by omega), an 3 p (by omega) (by omega)]
      exact rp p p0 (by omega)
  · rw [bn 251 _ (by omega) (by omega), bn 251 _ (by omega) (by omega), bn 251 _ (by omega) (by omega), bn 252 _ (by omega) (by omega), bn 253 _ (by omega) (by omega), an 4 d (by omega) (by omega), an 5 d (by omega) (by omega), an 6 d (by omega) (by omega), an 7 d (by omega) (by omega), an 8 d (by omega) (by omega)]
    exact rd d d0 (by omega)
  · rw [bn 254 _ (by omega) (by omega), an 9 i (by omega) (by omega)]
    exact rc i i0 (by omega)
theorem RM_D {F G : zH} (rm : RM F G) (n0 : 0 ≤ F 0 2) (x y z u : Int) : RM (zup (zup (zup (zup (zup (zup F 4 (F 0 2) x) 5 (F 0 2) y) 6 (F 0 2) z) 7 (F 0 2) u) 8 (F 0 2) 0) 0 2 (F 0 2 + 1)) (zup (zup (zup (zup (zup (zup G 251 (3 * F 0 2) x) 251 (3 * F 0 2 + 1) z) 251 (3 * F 0 2 + 2) 0) 252 (F 0 2) u) 253 (F 0 2) y) 240 24 (F 0 2 + 1)) := by
  obtain ⟨r1, r2, r3, r4, rp, rd, rc⟩ := rm
  obtain ⟨A, hA⟩ : ∃ A, A = zup (zup (zup (zup (zup (zup F 4 (F 0 2) x) 5 (F 0 2) y) 6 (F 0 2) z) 7 (F 0 2) u) 8 (F 0 2) 0) 0 2 (F 0 2 + 1) := ⟨_, rfl⟩
  obtain ⟨B, hB⟩ : ∃ B, B = zup (zup (zup (zup (zup (zup G 251 (3 * F 0 2) x) 251 (3 * F 0 2 + 1) z) 251 (3 * F 0 2 + 2) 0) 252 (F 0 2) u) 253 (F 0 2) y) 240 24 (F 0 2 + 1) := ⟨_, rfl⟩
  rw [← hA, ← hB]
  have a0 : A 0 2 = F 0 2 + 1 := by rw [hA, zup_same]
  have an : ∀ r b, ¬ (r = 0 ∧ b = 2) → ¬ (4 ≤ r ∧ r ≤ 8 ∧ b = F 0 2) → A r b = F r b := fun r b n1 n2 => by rw [hA, zup_ne n1, zup_ne (by omega), zup_ne (by omega), zup_ne (by omega), zup_ne (by omega), zup_ne (by omega)]
  have bn : ∀ r b, ¬ (r = 240 ∧ b = 24) → ¬ (r = 251 ∧ 3 * F 0 2 ≤ b ∧ b ≤ 3 * F 0 2 + 2) → ¬ (252 ≤ r ∧ r ≤ 253 ∧ b = F 0 2) → B r b = G r b := fun r b n1 n2 n3 => by rw [hB, zup_ne n1, zup_ne (by omega), zup_ne (by omega), zup_ne (by omega), zup_ne (by omega), zup_ne (by omega)]
  have a1 := an 0 1 (by omega) (by omega)
  have a3 := an 0 3 (by omega) (by omega)
  refine ⟨by rw [an 0 0 (by omega) (by omega), bn 240 21 (by omega) (by omega) (by omega)]; exact r1, by rw [a1, bn 240 22 (by omega) (by omega) (by omega)]; exact r2, by rw [a0, hB, zup_same], by rw [a3, bn 240 28 (by omega) (by omega) (by omega)]; exact r4, fun p p0 p1 => ?_, fun d d0 d1 => ?_, fun i i0 i1 => ?_⟩
  · rw [bn 250 _ (by omega) (by omega) (by omega), bn 250 _ (by omega) (by omega) (by omega), bn 250 _ (by omega) (by omega) (by omega), an 1 p (by omega) (by omega), an 2 p (by omega) (by omega), an 3 p (by omega) (by omega)]
    exact rp p p0 (by omega)
  · by_cases e : d = F 0 2
    · have v1 : A 4 d = x := by rw [hA, zup_ne (by omega), zup_ne (by omega), zup_ne (by omega), zup_ne (by omega), zup_ne (by omega), e, zup_same]
      have v2 : A 5 d = y := by rw [hA, zup_ne (by omega), zup_ne (by omega), zup_ne (by omega), zup_ne (by omega), e, zup_same]
      have v3 : A 6 d = z := by rw [hA, zup_ne (by omega), zup_ne (by omega), zup_ne (by omega), e, zup_same]
      have v4 : A 7 d = u := by rw [hA, zup_ne (by omega), zup_ne (by omega), e, zup_same]
      have v5 : A 8 d = 0 := by rw [hA, zup_ne (by omega), e, zup_same]
      rw [v1, v2, v3, v4, v5, e, hB]
      exact ⟨by rw [zup_ne (by omega), zup_ne (by omega), zup_ne (by omega), zup_ne (by omega), zup_ne (by omega), zup_same], by rw [zup_ne (by omega), zup_ne (by omega), zup_ne (by omega), zup_ne (by omega), zup_same], by rw [zup_ne (by omega), zup_ne (by omega), zup_ne (by omega), zup_same], by rw [zup_ne (by omega), zup_ne (by omega), zup_same], by rw [zup_ne (by omega), zup_same]⟩
    · rw [bn 251 _ (by omega) (by omega) (by omega), bn 251 _ (by omega) (by omega) (by omega), bn 251 _ (by omega) (by omega) (by omega), bn 252 _ (by omega) (by omega) (by omega), bn 253 _ (by omega) (by omega) (by omega), an 4 d (by omega) (by omega), an 5 d (by omega) (by omega), an 6 d (by omega) (by omega), an 7 d (by omega) (by omega), an 8 d (by omega) (by omega)]
      exact rd d d0 (by omega)
  · rw [bn 254 _ (by omega) (by omega) (by omega), an 9 i (by omega) (by omega)]
    exact rc i i0 (by omega)
theorem RM_C {F G : zH} (rm : RM F G) (n0 : 0 ≤ F 0 3) (x : Int) : RM (zup (zup F 9 (F 0 3) x) 0 3 (F 0 3 + 1)) (zup (zup G 254 (F 0 3) x) 240 28 (F 0 3 + 1)) := by
  obtain ⟨r1, r2, r3, r4, rp, rd, rc⟩ := rm
  have an : ∀ r b, ¬ (r = 0 ∧ b = 3) → ¬ (r = 9 ∧ b = F 0 3) → zup (zup F 9 (F 0 3) x) 0 3 (F 0 3 + 1) r b = F r b := fun r b n1 n2 => by rw [zup_ne n1, zup_ne n2]
  have bn : ∀ r b, ¬ (r = 240 ∧ b = 28) → ¬ (r = 254 ∧ b = F 0 3) → zup (zup G 254 (F 0 3) x) 240 28 (F 0 3 + 1) r b = G r b := fun r b n1 n2 => by rw [zup_ne n1, zup_ne n2]
  have a1 := an 0 1 (by omega) (by omega)
  have a2 := an 0 2 (by omega) (by omega)
  refine ⟨by rw [an 0 0 (by omega) (by omega), bn 240 21 (by omega) (by omega)]; exact r1, by rw [a1, bn 240 22 (by omega) (by omega)]; exact r2, by rw [a2, bn 240 24 (by omega) (by omega)]; exact r3, by rw [zup_same, zup_same], fun p p0 p1 => ?_, fun d d0 d1 => ?_, fun i i0 i1 => ?_⟩
  · rw [a1] at p1
    rw [bn 250 _ (by omega) (by omega), bn 250 _ (by omega) (by omega), bn 250 _ (by omega) (by omega), an 1 p (by omega) (by omega), an 2 p (by omega) (by omega), an 3 p (by omega) (by omega)]
    exact rp p p0 p1
  · rw [a2] at d1
    rw [bn 251 _ (by omega) (by omega), bn 251 _ (by omega) (by omega), bn 251 _ (by omega) (by omega), bn 252 _ (by omega) (by omega), bn 253 _ (by omega) (by omega), an 4 d (by omega) (by omega), an 5 d (by omega) (by omega), an 6 d (by omega) (by omega), an 7 d (by omega) (by omega), an 8 d (by omega) (by omega)]
    exact rd d d0 d1
  · rw [zup_same] at i1
    by_cases e : i = F 0 3
    · rw [e, zup_ne (r := 240) (by omega), zup_same, zup_ne (r := 0) (by omega), zup_same]
    · rw [bn 254 _ (by omega) (by omega), an 9 i (by omega) (by omega)]
      exact rc i i0 (by omega)
theorem RM_R {F G : zH} (rm : RM F G) (x : Int) : RM (zup F 0 0 x) (zup G 240 21 x) := by
  obtain ⟨r1, r2, r3, r4, rp, rd, rc⟩ := rm
  have an : ∀ r b, ¬ (r = 0 ∧ b = 0) → zup F 0 0 x r b = F r b := fun r b n1 => zup_ne n1
  have bn : ∀ r b, ¬ (r = 240 ∧ b = 21) → zup G 240 21 x r b = G r b := fun r b n1 => zup_ne n1
  have a1 := an 0 1 (by omega)
  have a2 := an 0 2 (by omega)
  have a3 := an 0 3 (by omega)
  refine ⟨by rw [zup_same, zup_same], by rw [a1, bn 240 22 (by omega)]; exact r2, by rw [a2, bn 240 24 (by omega)]; exact r3, by rw [a3, bn 240 28 (by omega)]; exact r4, fun p p0 p1 => ?_, fun d d0 d1 => ?_, fun i i0 i1 => ?_⟩
  · rw [a1] at p1
    rw [bn 250 _ (by omega), bn 250 _ (by omega), bn 250 _ (by omega), an 1 p (by omega), an 2 p (by omega), an 3 p (by omega)]
    exact rp p p0 p1
  · rw [a2] at d1
    rw [bn 251 _ (by omega), bn 251 _ (by omega), bn 251 _ (by omega), bn 252 _ (by omega), bn 253 _ (by omega), an 4 d (by omega), an 5 d (by omega), an 6 d (by omega), an 7 d (by omega), an 8 d (by omega)]
    exact rd d d0 d1
  · rw [a3] at i1
    rw [bn 254 _ (by omega), an 9 i (by omega)]
    exact rc i i0 i1
theorem RM_F {F G : zH} (rm : RM F G) {x y : Int} (x0 : 0 ≤ x) (x1 : x < F 0 2) (y0 : 0 ≤ y) (y1 : y < F 0 2) (ne : ¬ x = y) (u v : Int) : RM (zup (zup F 8 x u) 8 y v) (zup (zup G 251 (3 * x + 2) u) 251 (3 * y + 2) v) := by
  obtain ⟨r1, r2, r3, r4, rp, rd, rc⟩ := rm
  have an : ∀ r b, ¬ r = 8 → zup (zup F 8 x u) 8 y v r b = F r b := fun r b n1 => by rw [zup_ne (by omega), zup_ne (by omega)]
  have bn : ∀ r b, ¬ (r = 251 ∧ b % 3 = 2) → zup (zup G 251 (3 * x + 2) u) 251 (3 * y + 2) v r b = G r b := fun r b n1 => by rw [zup_ne (by omega), zup_ne (by omega)]
  have a1 := an 0 1 (by omega)
  have a2 := an 0 2 (by omega)
  have a3 := an 0 3 (by omega)
  refine ⟨by rw [an 0 0 (by omega), bn 240 21 (by omega)]; exact r1, by rw [a1, bn 240 22 (by omega)]; exact r2, by rw [a2, bn 240 24 (by omega)]; exact r3, by rw [a3, bn 240 28 (by omega)]; exact r4, fun p p0 p1 => ?_, fun d d0 d1 => ?_, fun i i0 i1 => ?_⟩
  · rw [a1] at p1
    rw [bn 250 _ (by omega), bn 250 _ (by omega), bn 250 _ (by omega), an 1 p (by omega), an 2 p (by omega), an 3 p (by omega)]
    exact rp p p0 p1
  · rw [a2] at d1
    have q := rd d d0 d1
    rw [bn 251 (3 * d) (by omega), bn 251 (3 * d + 1) (by omega), bn 252 _ (by omega), bn 253 _ (by omega), an 4 d (by omega), an 5 d (by omega), an 6 d (by omega), an 7 d (by omega)]
    refine ⟨q.1, q.2.1, ?_, q.2.2.2.1, q.2.2.2.2⟩
    by_cases e : d = y
    · rw [e, zup_same, zup_same]
    · rw [zup_ne (r := 251) (by omega), zup_ne (r := 8) (k := y) (by omega)]
      by_cases e2 : d = x
      · rw [e2, zup_same, zup_same]
      · rw [zup_ne (r := 251) (by omega), zup_ne (r := 8) (by omega)]
        exact q.2.2.1
  · rw [a3] at i1
    rw [bn 254 _ (by omega), an 9 i (by omega)]
    exact rc i i0 i1
theorem qX10_readPath {l : Launch} {g h G : zH} {Q : zQt} {a c q : Int} (hg : zGd g) (hL : 0 ≤ h 240 16 ∧ h 240 16 ≤ 150) (hT : ∀ i, 0 ≤ i → i < h 240 16 → 0 ≤ h 249 i ∧ h 249 i ≤ 255) {F : zH} (hF : FO F) (rm : RM F G) (a0 : 0 ≤ a) (a1 : a ≤ h 240 16) (q0 : 0 ≤ q) (h0 : ∀ G' a' c' q', ¬ (itP F (h 249) (h 240 16) a q).1 = -9 → Q none (SHL, g) (MH h G' a' (itP F (h 249) (h 240 16) a q).1 c' q')) (h1 : ∀ G', (itP F (h 249) (h 240 16) a q).1 = -9 → RM (itP F (h 249) (h 240 16) a q).2.1 G' → Q none (SHL, g) (MH h G' (ke (h 249) (h 240 16) (itP F (h 249) (h 240 16) a q).2.2) (-9) (kc (h 249) (h 240 16) (itP F (h 249) (h 240 16) a q).2.2) (ks (h 249) (h 240 16) (itP F (h 249) (h 240 16) a q).2.2))) : zC l mX10_readPath [zr 240] (SHL, g) (MH h G a (-9) c q) Q := by
  refine z_method kX10_readPath.1 rfl (Nat.le_of_ble_eq_true rfl) (fun hok hh => ?_)
  obtain ⟨⟨f0, f1, f2, f3⟩, fp, fd, fc⟩ := id hF
  have u1 := ks_r (X := h 249) a1
  have w1 := ke_r (X := h 249) a1
  have u2 := ks_r (X := h 249) w1.2
  have w2 := ke_r (X := h 249) w1.2
  have u3 := ks_r (X := h 249) w2.2
  have w3 := ke_r (X := h 249) w2.2
  have u4 := ks_r (X := h 249) w3.2
  have w4 := ke_r (X := h 249) w3.2
  refine z_aload_n dX10_readPath_0 rfl (by omega) ?_
  refine z_aload_n dX10_readPath_1 rfl (by omega) ?_
  refine y_geti (k' := 22) fl_X10_111 rfl dX10_readPath_2 sh_240 (by decide) ((MH_g (by decide) (by decide)).trans rm.2.1) ?_
  refine z_bipush dX10_readPath_5 ⟨by decide, by decide⟩ ?_
  refine z_icmp_ge (tgt := 14) dX10_readPath_7 (by decide) (fun c7 => ?_) (fun c7 => ?_)
  ·
    refine z_iconst dX10_readPath_14 ⟨by decide, by decide⟩ ?_
    refine z_callV (T := mX10_must) (As := [_]) kX10_must ml_X10_104 ⟨by decide, by decide⟩ dX10_readPath_15 rfl rfl (Nat.le_of_ble_eq_true rfl) sh_240 ⟨by decide, rfl⟩ (Nat.le_refl _) (Nat.le_refl _) (qX10_must_0 hg ?_)
    refine z_aload_n dX10_readPath_18 rfl (by omega) ?_
    refine z_callV (T := mX10_goOn) (As := []) kX10_goOn ml_X10_108 ⟨by decide, by decide⟩ dX10_readPath_19 rfl rfl (Nat.le_of_ble_eq_true rfl) sh_240 ⟨by decide, rfl⟩ (Nat.le_refl _) (Nat.le_refl _) (qX10_goOn_f hg (by omega) ?_)
    refine z_aload_n dX10_readPath_22 rfl (by omega) ?_
    refine z_iconst dX10_readPath_23 ⟨by decide, by decide⟩ ?_
    refine z_aload_n dX10_readPath_24 rfl (by omega) ?_
    refine y_geti (k' := 21) fl_X10_114 rfl dX10_readPath_25 sh_240 (by decide) ((MH_g (by decide) (by decide)).trans rm.1) ?_
    refine z_iconst dX10_readPath_28 ⟨by decide, by decide⟩ ?_
    refine y_isub dX10_readPath_29 (by omega) (by omega) ?_
    refine z_callV (T := mX10_number) (As := [_, _]) kX10_number ml_X10_117 ⟨by decide, by decide⟩ dX10_readPath_30 rfl rfl (Nat.le_of_ble_eq_true rfl) sh_240 ⟨by decide, rfl⟩ (Nat.le_refl _) (Nat.le_refl _) (qX10_number_f hg (by omega) ?_)
    refine z_istore_n dX10_readPath_33 (by decide) rfl lss_4_1 ?_
    refine z_aload_n dX10_readPath_34 rfl (by omega) ?_
    refine z_aload_n dX10_readPath_35 rfl (by omega) ?_
    refine y_geti (k' := 21) fl_X10_114 rfl dX10_readPath_36 sh_240 (by decide) ((MH_g (by decide) (by decide)).trans rm.1) ?_
    refine z_iconst dX10_readPath_39 ⟨by decide, by decide⟩ ?_
    refine y_isub dX10_readPath_40 (by omega) (by omega) ?_
    refine z_iload_n dX10_readPath_41 rfl ?_
    refine z_callV (T := mX10_unlike) (As := [_, _]) kX10_unlike ml_X10_120 ⟨by decide, by decide⟩ dX10_readPath_42 rfl rfl (Nat.le_of_ble_eq_true rfl) sh_240 ⟨by decide, rfl⟩ (Nat.le_refl _) (Nat.le_refl _) (qX10_unlike_f hg (by omega) ?_)
    refine z_istore_n dX10_readPath_45 (by decide) rfl lss_4_2 ?_
    refine z_aload_n dX10_readPath_46 rfl (by omega) ?_
    refine z_iconst dX10_readPath_47 ⟨by decide, by decide⟩ ?_
    refine z_bipush dX10_readPath_48 ⟨by decide, by decide⟩ ?_
    refine z_callV (T := mX10_number) (As := [_, _]) kX10_number ml_X10_117 ⟨by decide, by decide⟩ dX10_readPath_50 rfl rfl (Nat.le_of_ble_eq_true rfl) sh_240 ⟨by decide, rfl⟩ (Nat.le_refl _) (Nat.le_refl _) (qX10_number_f hg (by omega) ?_)
    refine z_istore_n dX10_readPath_53 (by decide) rfl lss_4_3 ?_
    refine z_aload_n dX10_readPath_54 rfl (by omega) ?_
    refine z_callV (T := mX10_end) (As := []) kX10_end ml_X10_123 ⟨by decide, by decide⟩ dX10_readPath_55 rfl rfl (Nat.le_of_ble_eq_true rfl) sh_240 ⟨by decide, rfl⟩ (Nat.le_refl _) (Nat.le_refl _) (qX10_end_f hg (by omega) ?_)
    refine z_aload_n dX10_readPath_58 rfl (by omega) ?_
    refine y_geti (k' := 18) fl_X10_42 rfl dX10_readPath_59 sh_240 (by decide) MH_r18 ?_
    refine z_bipush dX10_readPath_62 ⟨by decide, by decide⟩ ?_
    refine z_icmp_ne (tgt := 117) dX10_readPath_64 (by decide) (fun _ => ?_) (fun q => False.elim (by omega))
    refine z_ret (v := none) dX10_readPath_117 trivial (Nat.add_zero _).symm (Nat.add_zero _).symm rfl ?_
    unfold itP at h0
    rw [if_pos (by omega)] at h0
    exact h0 _ _ _ _ (fun z => by have z2 : q = -9 := z; omega)
  ·
    refine z_iconst dX10_readPath_10 ⟨by decide, by decide⟩ ?_
    refine z_goto (tgt := 15) dX10_readPath_11 (by decide) ?_
    refine z_callV (T := mX10_must) (As := [_]) kX10_must ml_X10_104 ⟨by decide, by decide⟩ dX10_readPath_15 rfl rfl (Nat.le_of_ble_eq_true rfl) sh_240 ⟨by decide, rfl⟩ (Nat.le_refl _) (Nat.le_refl _) (qX10_must_1 hg ?_)
    refine z_aload_n dX10_readPath_18 rfl (by omega) ?_
    refine z_callV (T := mX10_goOn) (As := []) kX10_goOn ml_X10_108 ⟨by decide, by decide⟩ dX10_readPath_19 rfl rfl (Nat.le_of_ble_eq_true rfl) sh_240 ⟨by decide, rfl⟩ (Nat.le_refl _) (Nat.le_refl _) (qX10_goOn hg hL hT (by omega) (by omega) ?_)
    refine z_aload_n dX10_readPath_22 rfl (by omega) ?_
    refine z_iconst dX10_readPath_23 ⟨by decide, by decide⟩ ?_
    refine z_aload_n dX10_readPath_24 rfl (by omega) ?_
    refine y_geti (k' := 21) fl_X10_114 rfl dX10_readPath_25 sh_240 (by decide) ((MH_g (by decide) (by decide)).trans rm.1) ?_
    refine z_iconst dX10_readPath_28 ⟨by decide, by decide⟩ ?_
    refine y_isub dX10_readPath_29 (by omega) (by omega) ?_
    refine z_callV (T := mX10_number) (As := [_, _]) kX10_number ml_X10_117 ⟨by decide, by decide⟩ dX10_readPath_30 rfl rfl (Nat.le_of_ble_eq_true rfl) sh_240 ⟨by decide, rfl⟩ (Nat.le_refl _) (Nat.le_refl _) (qX10_number hg hL hT (by omega) (by omega) (by omega) (fun n0 => ?_) (fun n0 => ?_))
    ·
      refine z_istore_n dX10_readPath_33 (by decide) rfl lss_4_1 ?_
      refine z_aload_n dX10_readPath_34 rfl (by omega) ?_
      refine z_aload_n dX10_readPath_35 rfl (by omega) ?_
      refine y_geti (k' := 21) fl_X10_114 rfl dX10_readPath_36 sh_240 (by decide) ((MH_g (by decide) (by decide)).trans rm.1) ?_
      refine z_iconst dX10_readPath_39 ⟨by decide, by decide⟩ ?_
      refine y_isub dX10_readPath_40 (by omega) (by omega) ?_
      refine z_iload_n dX10_readPath_41 rfl ?_
      refine z_callV (T := mX10_unlike) (As := [_, _]) kX10_unlike ml_X10_120 ⟨by decide, by decide⟩ dX10_readPath_42 rfl rfl (Nat.le_of_ble_eq_true rfl) sh_240 ⟨by decide, rfl⟩ (Nat.le_refl _) (Nat.le_refl _) (qX10_unlike hg hL hT (by omega) (by omega) (by omega) (fun n1 m1 => ?_) (fun n1 => ?_) (fun n1 m1 => ?_))
      ·
        refine z_istore_n dX10_readPath_45 (by decide) rfl lss_4_2 ?_
        refine z_aload_n dX10_readPath_46 rfl (by omega) ?_
        refine z_iconst dX10_readPath_47 ⟨by decide, by decide⟩ ?_
        refine z_bipush dX10_readPath_48 ⟨by decide, by decide⟩ ?_
        refine z_callV (T := mX10_number) (As := [_, _]) kX10_number ml_X10_117 ⟨by decide, by decide⟩ dX10_readPath_50 rfl rfl (Nat.le_of_ble_eq_true rfl) sh_240 ⟨by decide, rfl⟩ (Nat.le_refl _) (Nat.le_refl _) (qX10_number hg hL hT (by omega) (by omega) (by omega) (fun n2 => ?_) (fun n2 => ?_))
        ·
          refine z_istore_n dX10_readPath_53 (by decide) rfl lss_4_3 ?_
          refine z_aload_n dX10_readPath_54 rfl (by omega) ?_
          refine z_callV (T := mX10_end) (As := []) kX10_end ml_X10_123 ⟨by decide, by decide⟩ dX10_readPath_55 rfl rfl (Nat.le_of_ble_eq_true rfl) sh_240 ⟨by decide, rfl⟩ (Nat.le_refl _) (Nat.le_refl _) (qX10_end hg hL hT (by omega) (by omega) (by omega) (fun n3 => ?_) (fun n3 => ?_))
          ·
            refine z_aload_n dX10_readPath_58 rfl (by omega) ?_
            refine y_geti (k' := 18) fl_X10_42 rfl dX10_readPath_59 sh_240 (by decide) MH_r18 ?_
            refine z_bipush dX10_readPath_62 ⟨by decide, by decide⟩ ?_
            refine z_icmp_ne (tgt := 117) dX10_readPath_64 (by decide) (fun q => False.elim (by omega)) (fun _ => ?_)
            refine z_aload_n dX10_readPath_67 rfl (by omega) ?_
            refine y_geta (k' := 23) fl_X10_45 rfl dX10_readPath_68 sh_240 (by decide) (gf_240_23 hg) ?_
            refine z_iconst dX10_readPath_71 ⟨by decide, by decide⟩ ?_
            refine z_aload_n dX10_readPath_72 rfl (by omega) ?_
            refine y_geti (k' := 22) fl_X10_111 rfl dX10_readPath_73 sh_240 (by decide) ((MH_g (by decide) (by decide)).trans rm.2.1) ?_
            refine y_imul dX10_readPath_76 (by omega) (by omega) ?_
            refine z_iload_n dX10_readPath_77 rfl ?_
            refine z_iastore dX10_readPath_78 sh_250 (by omega) (by omega) ?_
            rw [MH_wa (by decide) (by decide)]
            refine z_aload_n dX10_readPath_79 rfl (by omega) ?_
            refine y_geta (k' := 23) fl_X10_45 rfl dX10_readPath_80 sh_240 (by decide) (gf_240_23 hg) ?_
            refine z_iconst dX10_readPath_83 ⟨by decide, by decide⟩ ?_
            refine z_aload_n dX10_readPath_84 rfl (by omega) ?_
            refine y_geti (k' := 22) fl_X10_111 rfl dX10_readPath_85 sh_240 (by decide) ((MH_g (by decide) (by decide)).trans ((zup_ne (by omega)).trans rm.2.1)) ?_
            refine y_imul dX10_readPath_88 (by omega) (by omega) ?_
            refine z_iconst dX10_readPath_89 ⟨by decide, by decide⟩ ?_
            refine y_iadd dX10_readPath_90 (by omega) (by omega) ?_
            refine z_iload_n dX10_readPath_91 rfl ?_
            refine z_iastore dX10_readPath_92 sh_250 (by omega) (by omega) ?_
            rw [MH_wa (by decide) (by decide)]
            refine z_aload_n dX10_readPath_93 rfl (by omega) ?_
            refine y_geta (k' := 23) fl_X10_45 rfl dX10_readPath_94 sh_240 (by decide) (gf_240_23 hg) ?_
            refine z_iconst dX10_readPath_97 ⟨by decide, by decide⟩ ?_
            refine z_aload_n dX10_readPath_98 rfl (by omega) ?_
            refine y_geti (k' := 22) fl_X10_111 rfl dX10_readPath_99 sh_240 (by decide) ((MH_g (by decide) (by decide)).trans ((zup_ne (by omega)).trans ((zup_ne (by omega)).trans rm.2.1))) ?_
            refine y_imul dX10_readPath_102 (by omega) (by omega) ?_
            refine z_iconst dX10_readPath_103 ⟨by decide, by decide⟩ ?_
            refine y_iadd dX10_readPath_104 (by omega) (by omega) ?_
            refine z_iload_n dX10_readPath_105 rfl ?_
            refine z_iastore dX10_readPath_106 sh_250 (by omega) (by omega) ?_
            rw [MH_wa (by decide) (by decide)]
            refine z_aload_n dX10_readPath_107 rfl (by omega) ?_
            refine z_dup dX10_readPath_108 rfl ?_
            refine y_geti (k' := 22) fl_X10_111 rfl dX10_readPath_109 sh_240 (by decide) ((MH_g (by decide) (by decide)).trans ((zup_ne (by omega)).trans ((zup_ne (by omega)).trans ((zup_ne (by omega)).trans rm.2.1)))) ?_
            refine z_iconst dX10_readPath_112 ⟨by decide, by decide⟩ ?_
            refine y_iadd dX10_readPath_113 (by omega) (by omega) ?_
            refine y_puti (k' := 22) fl_X10_111 rfl dX10_readPath_114 sh_240 (by decide)  ?_
            rw [MH_wg (by decide) (by decide)]
            refine z_ret (v := none) dX10_readPath_117 trivial (Nat.add_zero _).symm (Nat.add_zero _).symm rfl ?_
            unfold itP at h1
            rw [if_neg (by omega), if_neg (fun z => z n0), if_neg (fun z => z n1), if_neg m1, if_neg (fun z => z n2), if_neg (fun z => z n3)] at h1
            exact h1 _ rfl (RM_P rm (by omega) _ _ _)
          ·
            refine z_aload_n dX10_readPath_58 rfl (by omega) ?_
            refine y_geti (k' := 18) fl_X10_42 rfl dX10_readPath_59 sh_240 (by decide) MH_r18 ?_
            refine z_bipush dX10_readPath_62 ⟨by decide, by decide⟩ ?_
            refine z_icmp_ne (tgt := 117) dX10_readPath_64 (by decide) (fun _ => ?_) (fun q => False.elim (by omega))
            refine z_ret (v := none) dX10_readPath_117 trivial (Nat.add_zero _).symm (Nat.add_zero _).symm rfl ?_
            unfold itP at h0
            rw [if_neg (by omega), if_neg (fun z => z n0), if_neg (fun z => z n1), if_neg m1, if_neg (fun z => z n2), if_pos n3] at h0
            exact h0 _ _ _ _ (fun z => by have z2 : ks (h 249) (h 240 16) (ke (h 249) (h 240 16) (ke (h 249) (h 240 16) (ke (h 249) (h 240 16) a))) = -9 := z; omega)
        ·
          refine z_istore_n dX10_readPath_53 (by decide) rfl lss_4_3 ?_
          refine z_aload_n dX10_readPath_54 rfl (by omega) ?_
          refine z_callV (T := mX10_end) (As := []) kX10_end ml_X10_123 ⟨by decide, by decide⟩ dX10_readPath_55 rfl rfl (Nat.le_of_ble_eq_true rfl) sh_240 ⟨by decide, rfl⟩ (Nat.le_refl _) (Nat.le_refl _) (qX10_end_f hg (by omega) ?_)
          refine z_aload_n dX10_readPath_58 rfl (by omega) ?_
          refine y_geti (k' := 18) fl_X10_42 rfl dX10_readPath_59 sh_240 (by decide) MH_r18 ?_
          refine z_bipush dX10_readPath_62 ⟨by decide, by decide⟩ ?_
          refine z_icmp_ne (tgt := 117) dX10_readPath_64 (by decide) (fun _ => ?_) (fun q => False.elim (by omega))
          refine z_ret (v := none) dX10_readPath_117 trivial (Nat.add_zero _).symm (Nat.add_zero _).symm rfl ?_
          unfold itP at h0
          rw [if_neg (by omega), if_neg (fun z => z n0), if_neg (fun z => z n1), if_neg m1, if_pos n2] at h0
          exact h0 _ _ _ _ (fun z => by have z2 : ks (h 249) (h 240 16) (ke (h 249) (h 240 16) (ke (h 249) (h 240 16) a)) = -9 := z; omega)
      ·
        refine z_istore_n dX10_readPath_45 (by decide) rfl lss_4_2 ?_
        refine z_aload_n dX10_readPath_46 rfl (by omega) ?_
        refine z_iconst dX10_readPath_47 ⟨by decide, by decide⟩ ?_
        refine z_bipush dX10_readPath_48 ⟨by decide, by decide⟩ ?_
        refine z_callV (T := mX10_number) (As := [_, _]) kX10_number ml_X10_117 ⟨by decide, by decide⟩ dX10_readPath_50 rfl rfl (Nat.le_of_ble_eq_true rfl) sh_240 ⟨by decide, rfl⟩ (Nat.le_refl _) (Nat.le_refl _) (qX10_number_f hg (by omega) ?_)
        refine z_istore_n dX10_readPath_53 (by decide) rfl lss_4_3 ?_
        refine z_aload_n dX10_readPath_54 rfl (by omega) ?_
        refine z_callV (T := mX10_end) (As := []) kX10_end ml_X10_123 ⟨by decide, by decide⟩ dX10_readPath_55 rfl rfl (Nat.le_of_ble_eq_true rfl) sh_240 ⟨by decide, rfl⟩ (Nat.le_refl _) (Nat.le_refl _) (qX10_end_f hg (by omega) ?_)
        refine z_aload_n dX10_readPath_58 rfl (by omega) ?_
        refine y_geti (k' := 18) fl_X10_42 rfl dX10_readPath_59 sh_240 (by decide) MH_r18 ?_
        refine z_bipush dX10_readPath_62 ⟨by decide, by decide⟩ ?_
        refine z_icmp_ne (tgt := 117) dX10_readPath_64 (by decide) (fun _ => ?_) (fun q => False.elim (by omega))
        refine z_ret (v := none) dX10_readPath_117 trivial (Nat.add_zero _).symm (Nat.add_zero _).symm rfl ?_
        unfold itP at h0
        rw [if_neg (by omega), if_neg (fun z => z n0), if_pos n1] at h0
        exact h0 _ _ _ _ (fun z => by have z2 : ks (h 249) (h 240 16) (ke (h 249) (h 240 16) a) = -9 := z; omega)
      ·
        refine z_istore_n dX10_readPath_45 (by decide) rfl lss_4_2 ?_
        refine z_aload_n dX10_readPath_46 rfl (by omega) ?_
        refine z_iconst dX10_readPath_47 ⟨by decide, by decide⟩ ?_
        refine z_bipush dX10_readPath_48 ⟨by decide, by decide⟩ ?_
        refine z_callV (T := mX10_number) (As := [_, _]) kX10_number ml_X10_117 ⟨by decide, by decide⟩ dX10_readPath_50 rfl rfl (Nat.le_of_ble_eq_true rfl) sh_240 ⟨by decide, rfl⟩ (Nat.le_refl _) (Nat.le_refl _) (qX10_number_f hg (by omega) ?_)
        refine z_istore_n dX10_readPath_53 (by decide) rfl lss_4_3 ?_
        refine z_aload_n dX10_readPath_54 rfl (by omega) ?_
        refine z_callV (T := mX10_end) (As := []) kX10_end ml_X10_123 ⟨by decide, by decide⟩ dX10_readPath_55 rfl rfl (Nat.le_of_ble_eq_true rfl) sh_240 ⟨by decide, rfl⟩ (Nat.le_refl _) (Nat.le_refl _) (qX10_end_f hg (by omega) ?_)
        refine z_aload_n dX10_readPath_58 rfl (by omega) ?_
        refine y_geti (k' := 18) fl_X10_42 rfl dX10_readPath_59 sh_240 (by decide) MH_r18 ?_
        refine z_bipush dX10_readPath_62 ⟨by decide, by decide⟩ ?_
        refine z_icmp_ne (tgt := 117) dX10_readPath_64 (by decide) (fun _ => ?_) (fun q => False.elim (by omega))
        refine z_ret (v := none) dX10_readPath_117 trivial (Nat.add_zero _).symm (Nat.add_zero _).symm rfl ?_
        unfold itP at h0
        rw [if_neg (by omega), if_neg (fun z => z n0), if_neg (fun z => z n1), if_pos m1] at h0
        exact h0 _ _ _ _ (fun z => by have z2 : ks (h 249) (h 240 16) (ke (h 249) (h 240 16) a) = -9 := z; omega)
    ·
      refine z_istore_n dX10_readPath_33 (by decide) rfl lss_4_1 ?_
      refine z_aload_n dX10_readPath_34 rfl (by omega) ?_
      refine z_aload_n dX10_readPath_35 rfl (by omega) ?_
      refine y_geti (k' := 21) fl_X10_114 rfl dX10_readPath_36 sh_240 (by decide) ((MH_g (by decide) (by decide)).trans rm.1) ?_
      refine z_iconst dX10_readPath_39 ⟨by decide, by decide⟩ ?_
      refine y_isub dX10_readPath_40 (by omega) (by omega) ?_
      refine z_iload_n dX10_readPath_41 rfl ?_
      refine z_callV (T := mX10_unlike) (As := [_, _]) kX10_unlike ml_X10_120 ⟨by decide, by decide⟩ dX10_readPath_42 rfl rfl (Nat.le_of_ble_eq_true rfl) sh_240 ⟨by decide, rfl⟩ (Nat.le_refl _) (Nat.le_refl _) (qX10_unlike_f hg (by omega) ?_)
      refine z_istore_n dX10_readPath_45 (by decide) rfl lss_4_2 ?_
      refine z_aload_n dX10_readPath_46 rfl (by omega) ?_
      refine z_iconst dX10_readPath_47 ⟨by decide, by decide⟩ ?_
      refine z_bipush dX10_readPath_48 ⟨by decide, by decide⟩ ?_
      refine z_callV (T := mX10_number) (As := [_, _]) kX10_number ml_X10_117 ⟨by decide, by decide⟩ dX10_readPath_50 rfl rfl (Nat.le_of_ble_eq_true rfl) sh_240 ⟨by decide, rfl⟩ (Nat.le_refl _) (Nat.le_refl _) (qX10_number_f hg (by omega) ?_)
      refine z_istore_n dX10_readPath_53 (by decide) rfl lss_4_3 ?_
      refine z_aload_n dX10_readPath_54 rfl (by omega) ?_
      refine z_callV (T := mX10_end) (As := []) kX10_end ml_X10_123 ⟨by decide, by decide⟩ dX10_readPath_55 rfl rfl (Nat.le_of_ble_eq_true rfl) sh_240 ⟨by decide, rfl⟩ (Nat.le_refl _) (Nat.le_refl _) (qX10_end_f hg (by omega) ?_)
      refine z_aload_n dX10_readPath_58 rfl (by omega) ?_
      refine y_geti (k' := 18) fl_X10_42 rfl dX10_readPath_59 sh_240 (by decide) MH_r18 ?_
      refine z_bipush dX10_readPath_62 ⟨by decide, by decide⟩ ?_
      refine z_icmp_ne (tgt := 117) dX10_readPath_64 (by decide) (fun _ => ?_) (fun q => False.elim (by omega))
      refine z_ret (v := none) dX10_readPath_117 trivial (Nat.add_zero _).symm (Nat.add_zero _).symm rfl ?_
      unfold itP at h0
      rw [if_neg (by omega), if_pos n0] at h0
      exact h0 _ _ _ _ (fun z => by have z2 : ks (h 249) (h 240 16) a = -9 := z; omega)
theorem qX10_readDirector {l : Launch} {g h G : zH} {Q : zQt} {a c q : Int} (hg : zGd g) (hL : 0 ≤ h 240 16 ∧ h 240 16 ≤ 150) (hT : ∀ i, 0 ≤ i → i < h 240 16 → 0 ≤ h 249 i ∧ h 249 i ≤ 255) {F : zH} (hF : FO F) (rm : RM F G) (a0 : 0 ≤ a) (a1 : a ≤ h 240 16) (q0 : 0 ≤ q) (h0 : ∀ G' a' c' q', ¬ (itD F (h 249) (h 240 16) a q).1 = -9 → Q none (SHL, g) (MH h G' a' (itD F (h 249) (h 240 16) a q).1 c' q')) (h1 : ∀ G', (itD F (h 249) (h 240 16) a q).1 = -9 → RM (itD F (h 249) (h 240 16) a q).2.1 G' → Q none (SHL, g) (MH h G' (ke (h 249) (h 240 16) (itD F (h 249) (h 240 16) a q).2.2) (-9) (kc (h 249) (h 240 16) (itD F (h 249) (h 240 16) a q).2.2) (ks (h 249) (h 240 16) (itD F (h 249) (h 240 16) a q).2.2))) : zC l mX10_readDirector [zr 240] (SHL, g) (MH h G a (-9) c q) Q := by
  refine z_method kX10_readDirector.1 rfl (Nat.le_of_ble_eq_true rfl) (fun hok hh => ?_)
  obtain ⟨⟨f0, f1, f2, f3⟩, fp, fd, fc⟩ := id hF
  have u1 := ks_r (X := h 249) a1
  have w1 := ke_r (X := h 249) a1
  have u2 := ks_r (X := h 249) w1.2
  have w2 := ke_r (X := h 249) w1.2
  have u3 := ks_r (X := h 249) w2.2
  have w3 := ke_r (X := h 249) w2.2
  have u4 := ks_r (X := h 249) w3.2
  have w4 := ke_r (X := h 249) w3.2
  have u5 := ks_r (X := h 249) w4.2
  have w5 := ke_r (X := h 249) w4.2
  refine z_aload_n dX10_readDirector_0 rfl (by omega) ?_
  refine z_aload_n dX10_readDirector_1 rfl (by omega) ?_
  refine y_geti (k' := 24) fl_X10_126 rfl dX10_readDirector_2 sh_240 (by decide) ((MH_g (by decide) (by decide)).trans rm.2.2.1) ?_
  refine z_bipush dX10_readDirector_5 ⟨by decide, by decide⟩ ?_
  refine z_icmp_ge (tgt := 14) dX10_readDirector_7 (by decide) (fun c7 => ?_) (fun c7 => ?_)
  ·
    refine z_iconst dX10_readDirector_14 ⟨by decide, by decide⟩ ?_
    refine z_callV (T := mX10_must) (As := [_]) kX10_must ml_X10_104 ⟨by decide, by decide⟩ dX10_readDirector_15 rfl rfl (Nat.le_of_ble_eq_true rfl) sh_240 ⟨by decide, rfl⟩ (Nat.le_refl _) (Nat.le_refl _) (qX10_must_0 hg ?_)
    refine z_aload_n dX10_readDirector_18 rfl (by omega) ?_
    refine z_callV (T := mX10_goOn) (As := []) kX10_goOn ml_X10_108 ⟨by decide, by decide⟩ dX10_readDirector_19 rfl rfl (Nat.le_of_ble_eq_true rfl) sh_240 ⟨by decide, rfl⟩ (Nat.le_refl _) (Nat.le_refl _) (qX10_goOn_f hg (by omega) ?_)
    refine z_aload_n dX10_readDirector_22 rfl (by omega) ?_
    refine z_iconst dX10_readDirector_23 ⟨by decide, by decide⟩ ?_
    refine z_bipush dX10_readDirector_24 ⟨by decide, by decide⟩ ?_
    refine z_callV (T := mX10_number) (As := [_, _]) kX10_number ml_X10_117 ⟨by decide, by decide⟩ dX10_readDirector_26 rfl rfl (Nat.le_of_ble_eq_true rfl) sh_240 ⟨by decide, rfl⟩ (Nat.le_refl _) (Nat.le_refl _) (qX10_number_f hg (by omega) ?_)
    refine z_istore_n dX10_readDirector_29 (by decide) rfl lss_5_1 ?_
    refine z_aload_n dX10_readDirector_30 rfl (by omega) ?_
    refine z_iconst dX10_readDirector_31 ⟨by decide, by decide⟩ ?_
    refine z_bipush dX10_readDirector_32 ⟨by decide, by decide⟩ ?_
    refine z_callV (T := mX10_number) (As := [_, _]) kX10_number ml_X10_117 ⟨by decide, by decide⟩ dX10_readDirector_34 rfl rfl (Nat.le_of_ble_eq_true rfl) sh_240 ⟨by decide, rfl⟩ (Nat.le_refl _) (Nat.le_refl _) (qX10_number_f hg (by omega) ?_)
    refine z_istore_n dX10_readDirector_37 (by decide) rfl lss_5_2 ?_
    refine z_aload_n dX10_readDirector_38 rfl (by omega) ?_
    refine z_iconst dX10_readDirector_39 ⟨by decide, by decide⟩ ?_
    refine z_iconst dX10_readDirector_40 ⟨by decide, by decide⟩ ?_
    refine z_callV (T := mX10_number) (As := [_, _]) kX10_number ml_X10_117 ⟨by decide, by decide⟩ dX10_readDirector_41 rfl rfl (Nat.le_of_ble_eq_true rfl) sh_240 ⟨by decide, rfl⟩ (Nat.le_refl _) (Nat.le_refl _) (qX10_number_f hg (by omega) ?_)
    refine z_istore_n dX10_readDirector_44 (by decide) rfl lss_5_3 ?_
    refine z_aload_n dX10_readDirector_45 rfl (by omega) ?_
    refine z_iconst dX10_readDirector_46 ⟨by decide, by decide⟩ ?_
    refine z_aload_n dX10_readDirector_47 rfl (by omega) ?_
    refine y_geti (k' := 21) fl_X10_114 rfl dX10_readDirector_48 sh_240 (by decide) ((MH_g (by decide) (by decide)).trans rm.1) ?_
    refine z_iconst dX10_readDirector_51 ⟨by decide, by decide⟩ ?_
    refine y_isub dX10_readDirector_52 (by omega) (by omega) ?_
    refine z_callV (T := mX10_number) (As := [_, _]) kX10_number ml_X10_117 ⟨by decide, by decide⟩ dX10_readDirector_53 rfl rfl (Nat.le_of_ble_eq_true rfl) sh_240 ⟨by decide, rfl⟩ (Nat.le_refl _) (Nat.le_refl _) (qX10_number_f hg (by omega) ?_)
    refine z_istore dX10_readDirector_56 (by decide) rfl lss_5_4 ?_
    refine z_aload_n dX10_readDirector_58 rfl (by omega) ?_
    refine z_callV (T := mX10_end) (As := []) kX10_end ml_X10_123 ⟨by decide, by decide⟩ dX10_readDirector_59 rfl rfl (Nat.le_of_ble_eq_true rfl) sh_240 ⟨by decide, rfl⟩ (Nat.le_refl _) (Nat.le_refl _) (qX10_end_f hg (by omega) ?_)
    refine z_aload_n dX10_readDirector_62 rfl (by omega) ?_
    refine y_geti (k' := 18) fl_X10_42 rfl dX10_readDirector_63 sh_240 (by decide) MH_r18 ?_
    refine z_bipush dX10_readDirector_66 ⟨by decide, by decide⟩ ?_
    refine z_icmp_ne (tgt := 142) dX10_readDirector_68 (by decide) (fun _ => ?_) (fun q => False.elim (by omega))
    refine z_ret (v := none) dX10_readDirector_142 trivial (Nat.add_zero _).symm (Nat.add_zero _).symm rfl ?_
    unfold itD at h0
    rw [if_pos (by omega)] at h0
    exact h0 _ _ _ _ (fun z => by have z2 : q = -9 := z; omega)
  ·
    refine z_iconst dX10_readDirector_10 ⟨by decide, by decide⟩ ?_
    refine z_goto (tgt := 15) dX10_readDirector_11 (by decide) ?_
    refine z_callV (T := mX10_must) (As := [_]) kX10_must ml_X10_104 ⟨by decide, by decide⟩ dX10_readDirector_15 rfl rfl (Nat.le_of_ble_eq_true rfl) sh_240 ⟨by decide, rfl⟩ (Nat.le_refl _) (Nat.le_refl _) (qX10_must_1 hg ?_)
    refine z_aload_n dX10_readDirector_18 rfl (by omega) ?_
    refine z_callV (T := mX10_goOn) (As := []) kX10_goOn ml_X10_108 ⟨by decide, by decide⟩ dX10_readDirector_19 rfl rfl (Nat.le_of_ble_eq_true rfl) sh_240 ⟨by decide, rfl⟩ (Nat.le_refl _) (Nat.le_refl _) (qX10_goOn hg hL hT (by omega) (by omega) ?_)
    refine z_aload_n dX10_readDirector_22 rfl (by omega) ?_
    refine z_iconst dX10_readDirector_23 ⟨by decide, by decide⟩ ?_
    refine z_bipush dX10_readDirector_24 ⟨by decide, by decide⟩ ?_
    refine z_callV (T := mX10_number) (As := [_, _]) kX10_number ml_X10_117 ⟨by decide, by decide⟩ dX10_readDirector_26 rfl rfl (Nat.le_of_ble_eq_true rfl) sh_240 ⟨by decide, rfl⟩ (Nat.le_refl _) (Nat.le_refl _) (qX10_number hg hL hT (by omega) (by omega) (by omega) (fun n0 => ?_) (fun n0 => ?_))
    ·
      refine z_istore_n dX10_readDirector_29 (by decide) rfl lss_5_1 ?_
      refine z_aload_n dX10_readDirector_30 rfl (by omega) ?_
      refine z_iconst dX10_readDirector_31 ⟨by decide, by decide⟩ ?_
      refine z_bipush dX10_readDirector_32 ⟨by decide, by decide⟩ ?_
      refine z_callV (T := mX10_number) (As := [_, _]) kX10_number ml_X10_117 ⟨by decide, by decide⟩ dX10_readDirector_34 rfl rfl (Nat.le_of_ble_eq_true rfl) sh_240 ⟨by decide, rfl⟩ (Nat.le_refl _) (Nat.le_refl _) (qX10_number hg hL hT (by omega) (by omega) (by omega) (fun n1 => ?_) (fun n1 => ?_))
      ·
        refine z_istore_n dX10_readDirector_37 (by decide) rfl lss_5_2 ?_
        refine z_aload_n dX10_readDirector_38 rfl (by omega) ?_
        refine z_iconst dX10_readDirector_39 ⟨by decide, by decide⟩ ?_
        refine z_iconst dX10_readDirector_40 ⟨by decide, by decide⟩ ?_
        refine z_callV (T := mX10_number) (As := [_, _]) kX10_number ml_X10_117 ⟨by decide, by decide⟩ dX10_readDirector_41 rfl rfl (Nat.le_of_ble_eq_true rfl) sh_240 ⟨by decide, rfl⟩ (Nat.le_refl _) (Nat.le_refl _) (qX10_number hg hL hT (by omega) (by omega) (by omega) (fun n2 => ?_) (fun n2 => ?_))
        ·
          refine z_istore_n dX10_readDirector_44 (by decide) rfl lss_5_3 ?_
          refine z_aload_n dX10_readDirector_45 rfl (by omega) ?_
          refine z_iconst dX10_readDirector_46 ⟨by decide, by decide⟩ ?_
          refine z_aload_n dX10_readDirector_47 rfl (by omega) ?_
          refine y_geti (k' := 21) fl_X10_114 rfl dX10_readDirector_48 sh_240 (by decide) ((MH_g (by decide) (by decide)).trans rm.1) ?_
          refine z_iconst dX10_readDirector_51 ⟨by decide, by decide⟩ ?_
          refine y_isub dX10_readDirector_52 (by omega) (by omega) ?_
          refine z_callV (T := mX10_number) (As := [_, _]) kX10_number ml_X10_117 ⟨by decide, by decide⟩ dX10_readDirector_53 rfl rfl (Nat.le_of_ble_eq_true rfl) sh_240 ⟨by decide, rfl⟩ (Nat.le_refl _) (Nat.le_refl _) (qX10_number hg hL hT (by omega) (by omega) (by omega) (fun n3 => ?_) (fun n3 => ?_))
          ·
            refine z_istore dX10_readDirector_56 (by decide) rfl lss_5_4 ?_
            refine z_aload_n dX10_readDirector_58 rfl (by omega) ?_
            refine z_callV (T := mX10_end) (As := []) kX10_end ml_X10_123 ⟨by decide, by decide⟩ dX10_readDirector_59 rfl rfl (Nat.le_of_ble_eq_true rfl) sh_240 ⟨by decide, rfl⟩ (Nat.le_refl _) (Nat.le_refl _) (qX10_end hg hL hT (by omega) (by omega) (by omega) (fun n4 => ?_) (fun n4 => ?_))
            ·
              refine z_aload_n dX10_readDirector_62 rfl (by omega) ?_
              refine y_geti (k' := 18) fl_X10_42 rfl dX10_readDirector_63 sh_240 (by decide) MH_r18 ?_
              refine z_bipush dX10_readDirector_66 ⟨by decide, by decide⟩ ?_
              refine z_icmp_ne (tgt := 142) dX10_readDirector_68 (by decide) (fun q => False.elim (by omega)) (fun _ => ?_)
              refine z_aload_n dX10_readDirector_71 rfl (by omega) ?_
              refine y_geta (k' := 25) fl_X10_48 rfl dX10_readDirector_72 sh_240 (by decide) (gf_240_25 hg) ?_
              refine z_iconst dX10_readDirector_75 ⟨by decide, by decide⟩ ?_
              refine z_aload_n dX10_readDirector_76 rfl (by omega) ?_
              refine y_geti (k' := 24) fl_X10_126 rfl dX10_readDirector_77 sh_240 (by decide) ((MH_g (by decide) (by decide)).trans rm.2.2.1) ?_
              refine y_imul dX10_readDirector_80 (by omega) (by omega) ?_
              refine z_iload_n dX10_readDirector_81 rfl ?_
              refine z_iastore dX10_readDirector_82 sh_251 (by omega) (by omega) ?_
              rw [MH_wa (by decide) (by decide)]
              refine z_aload_n dX10_readDirector_83 rfl (by omega) ?_
              refine y_geta (k' := 25) fl_X10_48 rfl dX10_readDirector_84 sh_240 (by decide) (gf_240_25 hg) ?_
              refine z_iconst dX10_readDirector_87 ⟨by decide, by decide⟩ ?_
              refine z_aload_n dX10_readDirector_88 rfl (by omega) ?_
              refine y_geti (k' := 24) fl_X10_126 rfl dX10_readDirector_89 sh_240 (by decide) ((MH_g (by decide) (by decide)).trans ((zup_ne (by omega)).trans rm.2.2.1)) ?_
              refine y_imul dX10_readDirector_92 (by omega) (by omega) ?_
              refine z_iconst dX10_readDirector_93 ⟨by decide, by decide⟩ ?_
              refine y_iadd dX10_readDirector_94 (by omega) (by omega) ?_
              refine z_iload_n dX10_readDirector_95 rfl ?_
              refine z_iastore dX10_readDirector_96 sh_251 (by omega) (by omega) ?_
              rw [MH_wa (by decide) (by decide)]
              refine z_aload_n dX10_readDirector_97 rfl (by omega) ?_
              refine y_geta (k' := 25) fl_X10_48 rfl dX10_readDirector_98 sh_240 (by decide) (gf_240_25 hg) ?_
              refine z_iconst dX10_readDirector_101 ⟨by decide, by decide⟩ ?_
              refine z_aload_n dX10_readDirector_102 rfl (by omega) ?_
              refine y_geti (k' := 24) fl_X10_126 rfl dX10_readDirector_103 sh_240 (by decide) ((MH_g (by decide) (by decide)).trans ((zup_ne (by omega)).trans ((zup_ne (by omega)).trans rm.2.2.1))) ?_
              refine y_imul dX10_readDirector_106 (by omega) (by omega) ?_
              refine z_iconst dX10_readDirector_107 ⟨by decide, by decide⟩ ?_
              refine y_iadd dX10_readDirector_108 (by omega) (by omega) ?_
              refine z_iconst dX10_readDirector_109 ⟨by decide, by decide⟩ ?_
              refine z_iastore dX10_readDirector_110 sh_251 (by omega) (by omega) ?_
              rw [MH_wa (by decide) (by decide)]
              refine z_aload_n dX10_readDirector_111 rfl (by omega) ?_
              refine y_geta (k' := 26) fl_X10_51 rfl dX10_readDirector_112 sh_240 (by decide) (gf_240_26 hg) ?_
              refine z_aload_n dX10_readDirector_115 rfl (by omega) ?_
              refine y_geti (k' := 24) fl_X10_126 rfl dX10_readDirector_116 sh_240 (by decide) ((MH_g (by decide) (by decide)).trans ((zup_ne (by omega)).trans ((zup_ne (by omega)).trans ((zup_ne (by omega)).trans rm.2.2.1)))) ?_
              refine z_iload dX10_readDirector_119 rfl ?_
              refine z_iastore dX10_readDirector_121 sh_252 (by omega) (by omega) ?_
              rw [MH_wa (by decide) (by decide)]
              refine z_aload_n dX10_readDirector_122 rfl (by omega) ?_
              refine y_geta (k' := 27) fl_X10_54 rfl dX10_readDirector_123 sh_240 (by decide) (gf_240_27 hg) ?_
              refine z_aload_n dX10_readDirector_126 rfl (by omega) ?_
              refine y_geti (k' := 24) fl_X10_126 rfl dX10_readDirector_127 sh_240 (by decide) ((MH_g (by decide) (by decide)).trans ((zup_ne (by omega)).trans ((zup_ne (by omega)).trans ((zup_ne (by omega)).trans ((zup_ne (by omega)).trans rm.2.2.1))))) ?_
              refine z_iload_n dX10_readDirector_130 rfl ?_
              refine z_iastore dX10_readDirector_131 sh_253 (by omega) (by omega) ?_
              rw [MH_wa (by decide) (by decide)]
              refine z_aload_n dX10_readDirector_132 rfl (by omega) ?_
              refine z_dup dX10_readDirector_133 rfl ?_
              refine y_geti (k' := 24) fl_X10_126 rfl dX10_readDirector_134 sh_240 (by decide) ((MH_g (by decide) (by decide)).trans ((zup_ne (by omega)).trans ((zup_ne (by omega)).trans ((zup_ne (by omega)).trans ((zup_ne (by omega)).trans ((zup_ne (by omega)).trans rm.2.2.1)))))) ?_
              refine z_iconst dX10_readDirector_137 ⟨by decide, by decide⟩ ?_
              refine y_iadd dX10_readDirector_138 (by omega) (by omega) ?_
              refine y_puti (k' := 24) fl_X10_126 rfl dX10_readDirector_139 sh_240 (by decide)  ?_
              rw [MH_wg (by decide) (by decide)]
              refine z_ret (v := none) dX10_readDirector_142 trivial (Nat.add_zero _).symm (Nat.add_zero _).symm rfl ?_
              unfold itD at h1
              rw [if_neg (by omega), if_neg (fun z => z n0), if_neg (fun z => z n1), if_neg (fun z => z n2), if_neg (fun z => z n3), if_neg (fun z => z n4)] at h1
              exact h1 _ rfl (RM_D rm (by omega) _ _ _ _)
            ·
              refine z_aload_n dX10_readDirector_62 rfl (by omega) ?_
              refine y_geti (k' := 18) fl_X10_42 rfl dX10_readDirector_63 sh_240 (by decide) MH_r18 ?_
              refine z_bipush dX10_readDirector_66 ⟨by decide, by decide⟩ ?_
              refine z_icmp_ne (tgt := 142) dX10_readDirector_68 (by decide) (fun _ => ?_) (fun q => False.elim (by omega))
              refine z_ret (v := none) dX10_readDirector_142 trivial (Nat.add_zero _).symm (Nat.add_zero _).symm rfl ?_
              unfold itD at h0
              rw [if_neg (by omega), if_neg (fun z => z n0), if_neg (fun z => z n1), if_neg (fun z => z n2), if_neg (fun z => z n3), if_pos n4] at h0
              exact h0 _ _ _ _ (fun z => by have z2 : ks (h 249) (h 240 16) (ke (h 249) (h 240 16) (ke (h 249) (h 240 16) (ke (h 249) (h 240 16) (ke (h 249) (h 240 16) a)))) = -9 := z; omega)
          ·
            refine z_istore dX10_readDirector_56 (by decide) rfl lss_5_4 ?_
            refine z_aload_n dX10_readDirector_58 rfl (by omega) ?_
            refine z_callV (T := mX10_end) (As := []) kX10_end ml_X10_123 ⟨by decide, by decide⟩ dX10_readDirector_59 rfl rfl (Nat.le_of_ble_eq_true rfl) sh_240 ⟨by decide, rfl⟩ (Nat.le_refl _) (Nat.le_refl _) (qX10_end_f hg (by omega) ?_)
            refine z_aload_n dX10_readDirector_62 rfl (by omega) ?_
            refine y_geti (k' := 18) fl_X10_42 rfl dX10_readDirector_63 sh_240 (by decide) MH_r18 ?_
            refine z_bipush dX10_readDirector_66 ⟨by decide, by decide⟩ ?_
            refine z_icmp_ne (tgt := 142) dX10_readDirector_68 (by decide) (fun _ => ?_) (fun q => False.elim (by omega))
            refine z_ret (v := none) dX10_readDirector_142 trivial (Nat.add_zero _).symm (Nat.add_zero _).symm rfl ?_
            unfold itD at h0
            rw [if_neg (by omega), if_neg (fun z => z n0), if_neg (fun z => z n1), if_neg (fun z => z n2), if_pos n3] at h0
            exact h0 _ _ _ _ (fun z => by have z2 : ks (h 249) (h 240 16) (ke (h 249) (h 240 16) (ke (h 249) (h 240 16) (ke (h 249) (h 240 16) a))) = -9 := z; omega)
        ·
          refine z_istore_n dX10_readDirector_44 (by decide) rfl lss_5_3 ?_
          refine z_aload_n dX10_readDirector_45 rfl (by omega) ?_
          refine z_iconst dX10_readDirector_46 ⟨by decide, by decide⟩ ?_
          refine z_aload_n dX10_readDirector_47 rfl (by omega) ?_
          refine y_geti (k' := 21) fl_X10_114 rfl dX10_readDirector_48 sh_240 (by decide) ((MH_g (by decide) (by decide)).trans rm.1) ?_
          refine z_iconst dX10_readDirector_51 ⟨by decide, by decide⟩ ?_
          refine y_isub dX10_readDirector_52 (by omega) (by omega) ?_
          refine z_callV (T := mX10_number) (As := [_, _]) kX10_number ml_X10_117 ⟨by decide, by decide⟩ dX10_readDirector_53 rfl rfl (Nat.le_of_ble_eq_true rfl) sh_240 ⟨by decide, rfl⟩ (Nat.le_refl _) (Nat.le_refl _) (qX10_number_f hg (by omega) ?_)
          refine z_istore dX10_readDirector_56 (by decide) rfl lss_5_4 ?_
          refine z_aload_n dX10_readDirector_58 rfl (by omega) ?_
          refine z_callV (T := mX10_end) (As := []) kX10_end ml_X10_123 ⟨by decide, by decide⟩ dX10_readDirector_59 rfl rfl (Nat.le_of_ble_eq_true rfl) sh_240 ⟨by decide, rfl⟩ (Nat.le_refl _) (Nat.le_refl _) (qX10_end_f hg (by omega) ?_)
          refine z_aload_n dX10_readDirector_62 rfl (by omega) ?_
          refine y_geti (k' := 18) fl_X10_42 rfl dX10_readDirector_63 sh_240 (by decide) MH_r18 ?_
          refine z_bipush dX10_readDirector_66 ⟨by decide, by decide⟩ ?_
          refine z_icmp_ne (tgt := 142) dX10_readDirector_68 (by decide) (fun _ => ?_) (fun q => False.elim (by omega))
          refine z_ret (v := none) dX10_readDirector_142 trivial (Nat.add_zero _).symm (Nat.add_zero _).symm rfl ?_
          unfold itD at h0
          rw [if_neg (by omega), if_neg (fun z => z n0), if_neg (fun z => z n1), if_pos n2] at h0
          exact h0 _ _ _ _ (fun z => by have z2 : ks (h 249) (h 240 16) (ke (h 249) (h 240 16) (ke (h 249) (h 240 16) a)) = -9 := z; omega)
      ·
        refine z_istore_n dX10_readDirector_37 (by decide) rfl lss_5_2 ?_
        refine z_aload_n dX10_readDirector_38 rfl (by omega) ?_
        refine z_iconst dX10_readDirector_39 ⟨by decide, by decide⟩ ?_
        refine z_iconst dX10_readDirector_40 ⟨by decide, by decide⟩ ?_
        refine z_callV (T := mX10_number) (As := [_, _]) kX10_number ml_X10_117 ⟨by decide, by decide⟩ dX10_readDirector_41 rfl rfl (Nat.le_of_ble_eq_true rfl) sh_240 ⟨by decide, rfl⟩ (Nat.le_refl _) (Nat.le_refl _) (qX10_number_f hg (by omega) ?_)
        refine z_istore_n dX10_readDirector_44 (by decide) rfl lss_5_3 ?_
        refine z_aload_n dX10_readDirector_45 rfl (by omega) ?_
        refine z_iconst dX10_readDirector_46 ⟨by decide, by decide⟩ ?_
        refine z_aload_n dX10_readDirector_47 rfl (by omega) ?_
        refine y_geti (k' := 21) fl_X10_114 rfl dX10_readDirector_48 sh_240 (by decide) ((MH_g (by decide) (by decide)).trans rm.1) ?_
        refine z_iconst dX10_readDirector_51 ⟨by decide, by decide⟩ ?_
        refine y_isub dX10_readDirector_52 (by omega) (by omega) ?_
        refine z_callV (T := mX10_number) (As := [_, _]) kX10_number ml_X10_117 ⟨by decide, by decide⟩ dX10_readDirector_53 rfl rfl (Nat.le_of_ble_eq_true rfl) sh_240 ⟨by decide, rfl⟩ (Nat.le_refl _) (Nat.le_refl _) (qX10_number_f hg (by omega) ?_)
        refine z_istore dX10_readDirector_56 (by decide) rfl lss_5_4 ?_
        refine z_aload_n dX10_readDirector_58 rfl (by omega) ?_
        refine z_callV (T := mX10_end) (As := []) kX10_end ml_X10_123 ⟨by decide, by decide⟩ dX10_readDirector_59 rfl rfl (Nat.le_of_ble_eq_true rfl) sh_240 ⟨by decide, rfl⟩ (Nat.le_refl _) (Nat.le_refl _) (qX10_end_f hg (by omega) ?_)
        refine z_aload_n dX10_readDirector_62 rfl (by omega) ?_
        refine y_geti (k' := 18) fl_X10_42 rfl dX10_readDirector_63 sh_240 (by decide) MH_r18 ?_
        refine z_bipush dX10_readDirector_66 ⟨by decide, by decide⟩ ?_
        refine z_icmp_ne (tgt := 142) dX10_readDirector_68 (by decide) (fun _ => ?_) (fun q => False.elim (by omega))
        refine z_ret (v := none) dX10_readDirector_142 trivial (Nat.add_zero _).symm (Nat.add_zero _).symm rfl ?_
        unfold itD at h0
        rw [if_neg (by omega), if_neg (fun z => z n0), if_pos n1] at h0
        exact h0 _ _ _ _ (fun z => by have z2 : ks (h 249) (h 240 16) (ke (h 249) (h 240 16) a) = -9 := z; omega)
    ·
      refine z_istore_n dX10_readDirector_29 (by decide) rfl lss_5_1 ?_
      refine z_aload_n dX10_readDirector_30 rfl (by omega) ?_
      refine z_iconst dX10_readDirector_31 ⟨by decide, by decide⟩ ?_
      refine z_bipush dX10_readDirector_32 ⟨by decide, by decide⟩ ?_
      refine z_callV (T := mX10_number) (As := [_, _]) kX10_number ml_X10_117 ⟨by decide, by decide⟩ dX10_readDirector_34 rfl rfl (Nat.le_of_ble_eq_true rfl) sh_240 ⟨by decide, rfl⟩ (Nat.le_refl _) (Nat.le_refl _) (qX10_number_f hg (by omega) ?_)
      refine z_istore_n dX10_readDirector_37 (by decide) rfl lss_5_2 ?_
      refine z_aload_n dX10_readDirector_38 rfl (by omega) ?_
      refine z_iconst dX10_readDirector_39 ⟨by decide, by decide⟩ ?_
      refine z_iconst dX10_readDirector_40 ⟨by decide, by decide⟩ ?_
      refine z_callV (T := mX10_number) (As := [_, _]) kX10_number ml_X10_117 ⟨by decide, by decide⟩ dX10_readDirector_41 rfl rfl (Nat.le_of_ble_eq_true rfl) sh_240 ⟨by decide, rfl⟩ (Nat.le_refl _) (Nat.le_refl _) (qX10_number_f hg (by omega) ?_)
      refine z_istore_n dX10_readDirector_44 (by decide) rfl lss_5_3 ?_
      refine z_aload_n dX10_readDirector_45 rfl (by omega) ?_
      refine z_iconst dX10_readDirector_46 ⟨by decide, by decide⟩ ?_
      refine z_aload_n dX10_readDirector_47 rfl (by omega) ?_
      refine y_geti (k' := 21) fl_X10_114 rfl dX10_readDirector_48 sh_240 (by decide) ((MH_g (by decide) (by decide)).trans rm.1) ?_
      refine z_iconst dX10_readDirector_51 ⟨by decide, by decide⟩ ?_
      refine y_isub dX10_readDirector_52 (by omega) (by omega) ?_
      refine z_callV (T := mX10_number) (As := [_, _]) kX10_number ml_X10_117 ⟨by decide, by decide⟩ dX10_readDirector_53 rfl rfl (Nat.le_of_ble_eq_true rfl) sh_240 ⟨by decide, rfl⟩ (Nat.le_refl _) (Nat.le_refl _) (qX10_number_f hg (by omega) ?_)
      refine z_istore dX10_readDirector_56 (by decide) rfl lss_5_4 ?_
      refine z_aload_n dX10_readDirector_58 rfl (by omega) ?_
      refine z_callV (T := mX10_end) (As := []) kX10_end ml_X10_123 ⟨by decide, by decide⟩ dX10_readDirector_59 rfl rfl (Nat.le_of_ble_eq_true rfl) sh_240 ⟨by decide, rfl⟩ (Nat.le_refl _) (Nat.le_refl _) (qX10_end_f hg (by omega) ?_)
      refine z_aload_n dX10_readDirector_62 rfl (by omega) ?_
      refine y_geti (k' := 18) fl_X10_42 rfl dX10_readDirector_63 sh_240 (by decide) MH_r18 ?_
      refine z_bipush dX10_readDirector_66 ⟨by decide, by decide⟩ ?_
      refine z_icmp_ne (tgt := 142) dX10_readDirector_68 (by decide) (fun _ => ?_) (fun q => False.elim (by omega))
      refine z_ret (v := none) dX10_readDirector_142 trivial (Nat.add_zero _).symm (Nat.add_zero _).symm rfl ?_
      unfold itD at h0
      rw [if_neg (by omega), if_pos n0] at h0
      exact h0 _ _ _ _ (fun z => by have z2 : ks (h 249) (h 240 16) a = -9 := z; omega)
theorem qX10_readFriends {l : Launch} {g h G : zH} {Q : zQt} {a c q : Int} (hg : zGd g) (hL : 0 ≤ h 240 16 ∧ h 240 16 ≤ 150) (hT : ∀ i, 0 ≤ i → i < h 240 16 → 0 ≤ h 249 i ∧ h 249 i ≤ 255) {F : zH} (hF : FO F) (rm : RM F G) (a0 : 0 ≤ a) (a1 : a ≤ h 240 16) (q0 : 0 ≤ q) (h0 : ∀ G' a' c' q', ¬ (itF F (h 249) (h 240 16) a q).1 = -9 → Q none (SHL, g) (MH h G' a' (itF F (h 249) (h 240 16) a q).1 c' q')) (h1 : ∀ G', (itF F (h 249) (h 240 16) a q).1 = -9 → RM (itF F (h 249) (h 240 16) a q).2.1 G' → Q none (SHL, g) (MH h G' (ke (h 249) (h 240 16) (itF F (h 249) (h 240 16) a q).2.2) (-9) (kc (h 249) (h 240 16) (itF F (h 249) (h 240 16) a q).2.2) (ks (h 249) (h 240 16) (itF F (h 249) (h 240 16) a q).2.2))) : zC l mX10_readFriends [zr 240] (SHL, g) (MH h G a (-9) c q) Q := by
  refine z_method kX10_readFriends.1 rfl (Nat.le_of_ble_eq_true rfl) (fun hok hh => ?_)
  obtain ⟨⟨f0, f1, f2, f3⟩, fp, fd, fc⟩ := id hF
  have u1 := ks_r (X := h 249) a1
  have w1 := ke_r (X := h 249) a1
  have u2 := ks_r (X := h 249) w1.2
  have w2 := ke_r (X := h 249) w1.2
  have u3 := ks_r (X := h 249) w2.2
  have w3 := ke_r (X := h 249) w2.2
  refine z_aload_n dX10_readFriends_0 rfl (by omega) ?_
  refine z_callV (T := mX10_goOn) (As := []) kX10_goOn ml_X10_108 ⟨by decide, by decide⟩ dX10_readFriends_1 rfl rfl (Nat.le_of_ble_eq_true rfl) sh_240 ⟨by decide, rfl⟩ (Nat.le_refl _) (Nat.le_refl _) (qX10_goOn hg hL hT (by omega) (by omega) ?_)
  refine z_aload_n dX10_readFriends_4 rfl (by omega) ?_
  refine z_iconst dX10_readFriends_5 ⟨by decide, by decide⟩ ?_
  refine z_aload_n dX10_readFriends_6 rfl (by omega) ?_
  refine y_geti (k' := 24) fl_X10_126 rfl dX10_readFriends_7 sh_240 (by decide) ((MH_g (by decide) (by decide)).trans rm.2.2.1) ?_
  refine z_iconst dX10_readFriends_10 ⟨by decide, by decide⟩ ?_
  refine y_isub dX10_readFriends_11 (by omega) (by omega) ?_
  refine z_callV (T := mX10_number) (As := [_, _]) kX10_number ml_X10_117 ⟨by decide, by decide⟩ dX10_readFriends_12 rfl rfl (Nat.le_of_ble_eq_true rfl) sh_240 ⟨by decide, rfl⟩ (Nat.le_refl _) (Nat.le_refl _) (qX10_number hg hL hT (by omega) (by omega) (by omega) (fun n0 => ?_) (fun n0 => ?_))
  ·
    refine z_istore_n dX10_readFriends_15 (by decide) rfl lss_3_1 ?_
    refine z_aload_n dX10_readFriends_16 rfl (by omega) ?_
    refine z_aload_n dX10_readFriends_17 rfl (by omega) ?_
    refine y_geti (k' := 24) fl_X10_126 rfl dX10_readFriends_18 sh_240 (by decide) ((MH_g (by decide) (by decide)).trans rm.2.2.1) ?_
    refine z_iconst dX10_readFriends_21 ⟨by decide, by decide⟩ ?_
    refine y_isub dX10_readFriends_22 (by omega) (by omega) ?_
    refine z_iload_n dX10_readFriends_23 rfl ?_
    refine z_callV (T := mX10_unlike) (As := [_, _]) kX10_unlike ml_X10_120 ⟨by decide, by decide⟩ dX10_readFriends_24 rfl rfl (Nat.le_of_ble_eq_true rfl) sh_240 ⟨by decide, rfl⟩ (Nat.le_refl _) (Nat.le_refl _) (qX10_unlike hg hL hT (by omega) (by omega) (by omega) (fun n1 m1 => ?_) (fun n1 => ?_) (fun n1 m1 => ?_))
    ·
      refine z_istore_n dX10_readFriends_27 (by decide) rfl lss_3_2 ?_
      refine z_aload_n dX10_readFriends_28 rfl (by omega) ?_
      refine z_callV (T := mX10_end) (As := []) kX10_end ml_X10_123 ⟨by decide, by decide⟩ dX10_readFriends_29 rfl rfl (Nat.le_of_ble_eq_true rfl) sh_240 ⟨by decide, rfl⟩ (Nat.le_refl _) (Nat.le_refl _) (qX10_end hg hL hT (by omega) (by omega) (by omega) (fun n2 => ?_) (fun n2 => ?_))
      ·
        refine z_aload_n dX10_readFriends_32 rfl (by omega) ?_
        refine y_geti (k' := 18) fl_X10_42 rfl dX10_readFriends_33 sh_240 (by decide) MH_r18 ?_
        refine z_bipush dX10_readFriends_36 ⟨by decide, by decide⟩ ?_
        refine z_icmp_ne (tgt := 73) dX10_readFriends_38 (by decide) (fun q => False.elim (by omega)) (fun _ => ?_)
        refine z_aload_n dX10_readFriends_41 rfl (by omega) ?_
        refine y_geta (k' := 25) fl_X10_48 rfl dX10_readFriends_42 sh_240 (by decide) (gf_240_25 hg) ?_
        refine z_iconst dX10_readFriends_45 ⟨by decide, by decide⟩ ?_
        refine z_iload_n dX10_readFriends_46 rfl ?_
        refine y_imul dX10_readFriends_47 (by omega) (by omega) ?_
        refine z_iconst dX10_readFriends_48 ⟨by decide, by decide⟩ ?_
        refine y_iadd dX10_readFriends_49 (by omega) (by omega) ?_
        refine z_dup2 dX10_readFriends_50 rfl rfl ?_
        refine z_iaload dX10_readFriends_51 sh_251 (by omega) (by omega) ((MH_a (by decide) (by decide)).trans (rm.2.2.2.2.2.1 _ (by omega) (by omega)).2.2.1) ?_
        refine z_iconst dX10_readFriends_52 ⟨by decide, by decide⟩ ?_
        refine z_iload_n dX10_readFriends_53 rfl ?_
        refine z_ishl dX10_readFriends_54 ?_
        refine z_ior dX10_readFriends_55 ?_
        refine z_iastore dX10_readFriends_56 sh_251 (by omega) (by omega) ?_
        rw [MH_wa (by decide) (by decide)]
        refine z_aload_n dX10_readFriends_57 rfl (by omega) ?_
        refine y_geta (k' := 25) fl_X10_48 rfl dX10_readFriends_58 sh_240 (by decide) (gf_240_25 hg) ?_
        refine z_iconst dX10_readFriends_61 ⟨by decide, by decide⟩ ?_
        refine z_iload_n dX10_readFriends_62 rfl ?_
        refine y_imul dX10_readFriends_63 (by omega) (by omega) ?_
        refine z_iconst dX10_readFriends_64 ⟨by decide, by decide⟩ ?_
        refine y_iadd dX10_readFriends_65 (by omega) (by omega) ?_
        refine z_dup2 dX10_readFriends_66 rfl rfl ?_
        refine z_iaload dX10_readFriends_67 sh_251 (by omega) (by omega) ((MH_a (by decide) (by decide)).trans ((zup_ne (by omega)).trans (rm.2.2.2.2.2.1 _ (by omega) (by omega)).2.2.1)) ?_
        refine z_iconst dX10_readFriends_68 ⟨by decide, by decide⟩ ?_
        refine z_iload_n dX10_readFriends_69 rfl ?_
        refine z_ishl dX10_readFriends_70 ?_
        refine z_ior dX10_readFriends_71 ?_
        refine z_iastore dX10_readFriends_72 sh_251 (by omega) (by omega) ?_
        rw [MH_wa (by decide) (by decide)]
        refine z_ret (v := none) dX10_readFriends_73 trivial (Nat.add_zero _).symm (Nat.add_zero _).symm rfl ?_
        unfold itF at h1
        rw [if_neg (fun z => z n0), if_neg (fun z => z n1), if_neg m1, if_neg (fun z => z n2)] at h1
        exact h1 _ rfl (RM_F rm (by omega) (by omega) (by omega) (by omega) m1 _ _)
      ·
        refine z_aload_n dX10_readFriends_32 rfl (by omega) ?_
        refine y_geti (k' := 18) fl_X10_42 rfl dX10_readFriends_33 sh_240 (by decide) MH_r18 ?_
        refine z_bipush dX10_readFriends_36 ⟨by decide, by decide⟩ ?_
        refine z_icmp_ne (tgt := 73) dX10_readFriends_38 (by decide) (fun _ => ?_) (fun q => False.elim (by omega))
        refine z_ret (v := none) dX10_readFriends_73 trivial (Nat.add_zero _).symm (Nat.add_zero _).symm rfl ?_
        unfold itF at h0
        rw [if_neg (fun z => z n0), if_neg (fun z => z n1), if_neg m1, if_pos n2] at h0
        exact h0 _ _ _ _ (fun z => by have z2 : ks (h 249) (h 240 16) (ke (h 249) (h 240 16) (ke (h 249) (h 240 16) a)) = -9 := z; omega)
    ·
      refine z_istore_n dX10_readFriends_27 (by decide) rfl lss_3_2 ?_
      refine z_aload_n dX10_readFriends_28 rfl (by omega) ?_
      refine z_callV (T := mX10_end) (As := []) kX10_end ml_X10_123 ⟨by decide, by decide⟩ dX10_readFriends_29 rfl rfl (Nat.le_of_ble_eq_true rfl) sh_240 ⟨by decide, rfl⟩ (Nat.le_refl _) (Nat.le_refl _) (qX10_end_f hg (by omega) ?_)
      refine z_aload_n dX10_readFriends_32 rfl (by omega) ?_
      refine y_geti (k' := 18) fl_X10_42 rfl dX10_readFriends_33 sh_240 (by decide) MH_r18 ?_
      refine z_bipush dX10_readFriends_36 ⟨by decide, by decide⟩ ?_
      refine z_icmp_ne (tgt := 73) dX10_readFriends_38 (by decide) (fun _ => ?_) (fun q => False.elim (by omega))
      refine z_ret (v := none) dX10_readFriends_73 trivial (Nat.add_zero _).symm (Nat.add_zero _).symm rfl ?_
      unfold itF at h0
      rw [if_neg (fun z => z n0), if_pos n1] at h0
      exact h0 _ _ _ _ (fun z => by have z2 : ks (h 249) (h 240 16) (ke (h 249) (h 240 16) a) = -9 := z; omega)
    ·
      refine z_istore_n dX10_readFriends_27 (by decide) rfl lss_3_2 ?_
      refine z_aload_n dX10_readFriends_28 rfl (by omega) ?_
      refine z_callV (T := mX10_end) (As := []) kX10_end ml_X10_123 ⟨by decide, by decide⟩ dX10_readFriends_29 rfl rfl (Nat.le_of_ble_eq_true rfl) sh_240 ⟨by decide, rfl⟩ (Nat.le_refl _) (Nat.le_refl _) (qX10_end_f hg (by omega) ?_)
      refine z_aload_n dX10_readFriends_32 rfl (by omega) ?_
      refine y_geti (k' := 18) fl_X10_42 rfl dX10_readFriends_33 sh_240 (by decide) MH_r18 ?_
      refine z_bipush dX10_readFriends_36 ⟨by decide, by decide⟩ ?_
      refine z_icmp_ne (tgt := 73) dX10_readFriends_38 (by decide) (fun _ => ?_) (fun q => False.elim (by omega))
      refine z_ret (v := none) dX10_readFriends_73 trivial (Nat.add_zero _).symm (Nat.add_zero _).symm rfl ?_
      unfold itF at h0
      rw [if_neg (fun z => z n0), if_neg (fun z => z n1), if_pos m1] at h0
      exact h0 _ _ _ _ (fun z => by have z2 : ks (h 249) (h 240 16) (ke (h 249) (h 240 16) a) = -9 := z; omega)
  ·
    refine z_istore_n dX10_readFriends_15 (by decide) rfl lss_3_1 ?_
    refine z_aload_n dX10_readFriends_16 rfl (by omega) ?_
    refine z_aload_n dX10_readFriends_17 rfl (by omega) ?_
    refine y_geti (k' := 24) fl_X10_126 rfl dX10_readFriends_18 sh_240 (by decide) ((MH_g (by decide) (by decide)).trans rm.2.2.1) ?_
    refine z_iconst dX10_readFriends_21 ⟨by decide, by decide⟩ ?_
    refine y_isub dX10_readFriends_22 (by omega) (by omega) ?_
    refine z_iload_n dX10_readFriends_23 rfl ?_
    refine z_callV (T := mX10_unlike) (As := [_, _]) kX10_unlike ml_X10_120 ⟨by decide, by decide⟩ dX10_readFriends_24 rfl rfl (Nat.le_of_ble_eq_true rfl) sh_240 ⟨by decide, rfl⟩ (Nat.le_refl _) (Nat.le_refl _) (qX10_unlike_f hg (by omega) ?_)
    refine z_istore_n dX10_readFriends_27 (by decide) rfl lss_3_2 ?_
    refine z_aload_n dX10_readFriends_28 rfl (by omega) ?_
    refine z_callV (T := mX10_end) (As := []) kX10_end ml_X10_123 ⟨by decide, by decide⟩ dX10_readFriends_29 rfl rfl (Nat.le_of_ble_eq_true rfl) sh_240 ⟨by decide, rfl⟩ (Nat.le_refl _) (Nat.le_refl _) (qX10_end_f hg (by omega) ?_)
    refine z_aload_n dX10_readFriends_32 rfl (by omega) ?_
    refine y_geti (k' := 18) fl_X10_42 rfl dX10_readFriends_33 sh_240 (by decide) MH_r18 ?_
    refine z_bipush dX10_readFriends_36 ⟨by decide, by decide⟩ ?_
    refine z_icmp_ne (tgt := 73) dX10_readFriends_38 (by decide) (fun _ => ?_) (fun q => False.elim (by omega))
    refine z_ret (v := none) dX10_readFriends_73 trivial (Nat.add_zero _).symm (Nat.add_zero _).symm rfl ?_
    unfold itF at h0
    rw [if_pos n0] at h0
    exact h0 _ _ _ _ (fun z => by have z2 : ks (h 249) (h 240 16) a = -9 := z; omega)
theorem qX10_readChild {l : Launch} {g h G : zH} {Q : zQt} {a c q : Int} (hg : zGd g) (hL : 0 ≤ h 240 16 ∧ h 240 16 ≤ 150) (hT : ∀ i, 0 ≤ i → i < h 240 16 → 0 ≤ h 249 i ∧ h 249 i ≤ 255) {F : zH} (hF : FO F) (rm : RM F G) (a0 : 0 ≤ a) (a1 : a ≤ h 240 16) (q0 : 0 ≤ q) (h0 : ∀ G' a' c' q', ¬ (itC F (h 249) (h 240 16) a q).1 = -9 → Q none (SHL, g) (MH h G' a' (itC F (h 249) (h 240 16) a q).1 c' q')) (h1 : ∀ G', (itC F (h 249) (h 240 16) a q).1 = -9 → RM (itC F (h 249) (h 240 16) a q).2.1 G' → Q none (SHL, g) (MH h G' (ke (h 249) (h 240 16) (itC F (h 249) (h 240 16) a q).2.2) (-9) (kc (h 249) (h 240 16) (itC F (h 249) (h 240 16) a q).2.2) (ks (h 249) (h 240 16) (itC F (h 249) (h 240 16) a q).2.2))) : zC l mX10_readChild [zr 240] (SHL, g) (MH h G a (-9) c q) Q := by
  refine z_method kX10_readChild.1 rfl (Nat.le_of_ble_eq_true rfl) (fun hok hh => ?_)
  obtain ⟨⟨f0, f1, f2, f3⟩, fp, fd, fc⟩ := id hF
  have u1 := ks_r (X := h 249) a1
  have w1 := ke_r (X := h 249) a1
  have u2 := ks_r (X := h 249) w1.2
  have w2 := ke_r (X := h 249) w1.2
  refine z_aload_n dX10_readChild_0 rfl (by omega) ?_
  refine z_aload_n dX10_readChild_1 rfl (by omega) ?_
  refine y_geti (k' := 28) fl_X10_129 rfl dX10_readChild_2 sh_240 (by decide) ((MH_g (by decide) (by decide)).trans rm.2.2.2.1) ?_
  refine z_iconst dX10_readChild_5 ⟨by decide, by decide⟩ ?_
  refine z_icmp_ge (tgt := 13) dX10_readChild_6 (by decide) (fun c6 => ?_) (fun c6 => ?_)
  ·
    refine z_iconst dX10_readChild_13 ⟨by decide, by decide⟩ ?_
    refine z_callV (T := mX10_must) (As := [_]) kX10_must ml_X10_104 ⟨by decide, by decide⟩ dX10_readChild_14 rfl rfl (Nat.le_of_ble_eq_true rfl) sh_240 ⟨by decide, rfl⟩ (Nat.le_refl _) (Nat.le_refl _) (qX10_must_0 hg ?_)
    refine z_aload_n dX10_readChild_17 rfl (by omega) ?_
    refine z_callV (T := mX10_goOn) (As := []) kX10_goOn ml_X10_108 ⟨by decide, by decide⟩ dX10_readChild_18 rfl rfl (Nat.le_of_ble_eq_true rfl) sh_240 ⟨by decide, rfl⟩ (Nat.le_refl _) (Nat.le_refl _) (qX10_goOn_f hg (by omega) ?_)
    refine z_aload_n dX10_readChild_21 rfl (by omega) ?_
    refine z_iconst dX10_readChild_22 ⟨by decide, by decide⟩ ?_
    refine z_bipush dX10_readChild_23 ⟨by decide, by decide⟩ ?_
    refine z_callV (T := mX10_number) (As := [_, _]) kX10_number ml_X10_117 ⟨by decide, by decide⟩ dX10_readChild_25 rfl rfl (Nat.le_of_ble_eq_true rfl) sh_240 ⟨by decide, rfl⟩ (Nat.le_refl _) (Nat.le_refl _) (qX10_number_f hg (by omega) ?_)
    refine z_istore_n dX10_readChild_28 (by decide) rfl lss_2_1 ?_
    refine z_aload_n dX10_readChild_29 rfl (by omega) ?_
    refine z_callV (T := mX10_end) (As := []) kX10_end ml_X10_123 ⟨by decide, by decide⟩ dX10_readChild_30 rfl rfl (Nat.le_of_ble_eq_true rfl) sh_240 ⟨by decide, rfl⟩ (Nat.le_refl _) (Nat.le_refl _) (qX10_end_f hg (by omega) ?_)
    refine z_aload_n dX10_readChild_33 rfl (by omega) ?_
    refine y_geti (k' := 18) fl_X10_42 rfl dX10_readChild_34 sh_240 (by decide) MH_r18 ?_
    refine z_bipush dX10_readChild_37 ⟨by decide, by decide⟩ ?_
    refine z_icmp_ne (tgt := 62) dX10_readChild_39 (by decide) (fun _ => ?_) (fun q => False.elim (by omega))
    refine z_ret (v := none) dX10_readChild_62 trivial (Nat.add_zero _).symm (Nat.add_zero _).symm rfl ?_
    unfold itC at h0
    rw [if_pos (by omega)] at h0
    exact h0 _ _ _ _ (fun z => by have z2 : q = -9 := z; omega)
  ·
    refine z_iconst dX10_readChild_9 ⟨by decide, by decide⟩ ?_
    refine z_goto (tgt := 14) dX10_readChild_10 (by decide) ?_
    refine z_callV (T := mX10_must) (As := [_]) kX10_must ml_X10_104 ⟨by decide, by decide⟩ dX10_readChild_14 rfl rfl (Nat.le_of_ble_eq_true rfl) sh_240 ⟨by decide, rfl⟩ (Nat.le_refl _) (Nat.le_refl _) (qX10_must_1 hg ?_)
    refine z_aload_n dX10_readChild_17 rfl (by omega) ?_
    refine z_callV (T := mX10_goOn) (As := []) kX10_goOn ml_X10_108 ⟨by decide, by decide⟩ dX10_readChild_18 rfl rfl (Nat.le_of_ble_eq_true rfl) sh_240 ⟨by decide, rfl⟩ (Nat.le_refl _) (Nat.le_refl _) (qX10_goOn hg hL hT (by omega) (by omega) ?_)
    refine z_aload_n dX10_readChild_21 rfl (by omega) ?_
    refine z_iconst dX10_readChild_22 ⟨by decide, by decide⟩ ?_
    refine z_bipush dX10_readChild_23 ⟨by decide, by decide⟩ ?_
    refine z_callV (T := mX10_number) (As := [_, _]) kX10_number ml_X10_117 ⟨by decide, by decide⟩ dX10_readChild_25 rfl rfl (Nat.le_of_ble_eq_true rfl) sh_240 ⟨by decide, rfl⟩ (Nat.le_refl _) (Nat.le_refl _) (qX10_number hg hL hT (by omega) (by omega) (by omega) (fun n0 => ?_) (fun n0 => ?_))
    ·
      refine z_istore_n dX10_readChild_28 (by decide) rfl lss_2_1 ?_
      refine z_aload_n dX10_readChild_29 rfl (by omega) ?_
      refine z_callV (T := mX10_end) (As := []) kX10_end ml_X10_123 ⟨by decide, by decide⟩ dX10_readChild_30 rfl rfl (Nat.le_of_ble_eq_true rfl) sh_240 ⟨by decide, rfl⟩ (Nat.le_refl _) (Nat.le_refl _) (qX10_end hg hL hT (by omega) (by omega) (by omega) (fun n1 => ?_) (fun n1 => ?_))
      ·
        refine z_aload_n dX10_readChild_33 rfl (by omega) ?_
        refine y_geti (k' := 18) fl_X10_42 rfl dX10_readChild_34 sh_240 (by decide) MH_r18 ?_
        refine z_bipush dX10_readChild_37 ⟨by decide, by decide⟩ ?_
        refine z_icmp_ne (tgt := 62) dX10_readChild_39 (by decide) (fun q => False.elim (by omega)) (fun _ => ?_)
        refine z_aload_n dX10_readChild_42 rfl (by omega) ?_
        refine y_geta (k' := 29) fl_X10_57 rfl dX10_readChild_43 sh_240 (by decide) (gf_240_29 hg) ?_
        refine z_aload_n dX10_readChild_46 rfl (by omega) ?_
        refine y_geti (k' := 28) fl_X10_129 rfl dX10_readChild_47 sh_240 (by decide) ((MH_g (by decide) (by decide)).trans rm.2.2.2.1) ?_
        refine z_iload_n dX10_readChild_50 rfl ?_
        refine z_iastore dX10_readChild_51 sh_254 (by omega) (by omega) ?_
        rw [MH_wa (by decide) (by decide)]
        refine z_aload_n dX10_readChild_52 rfl (by omega) ?_
        refine z_dup dX10_readChild_53 rfl ?_
        refine y_geti (k' := 28) fl_X10_129 rfl dX10_readChild_54 sh_240 (by decide) ((MH_g (by decide) (by decide)).trans ((zup_ne (by omega)).trans rm.2.2.2.1)) ?_
        refine z_iconst dX10_readChild_57 ⟨by decide, by decide⟩ ?_
        refine y_iadd dX10_readChild_58 (by omega) (by omega) ?_
        refine y_puti (k' := 28) fl_X10_129 rfl dX10_readChild_59 sh_240 (by decide)  ?_
        rw [MH_wg (by decide) (by decide)]
        refine z_ret (v := none) dX10_readChild_62 trivial (Nat.add_zero _).symm (Nat.add_zero _).symm rfl ?_
        unfold itC at h1
        rw [if_neg (by omega), if_neg (fun z => z n0), if_neg (fun z => z n1)] at h1
        exact h1 _ rfl (RM_C rm (by omega) _)
      ·
        refine z_aload_n dX10_readChild_33 rfl (by omega) ?_
        refine y_geti (k' := 18) fl_X10_42 rfl dX10_readChild_34 sh_240 (by decide) MH_r18 ?_
        refine z_bipush dX10_readChild_37 ⟨by decide, by decide⟩ ?_
        refine z_icmp_ne (tgt := 62) dX10_readChild_39 (by decide) (fun _ => ?_) (fun q => False.elim (by omega))
        refine z_ret (v := none) dX10_readChild_62 trivial (Nat.add_zero _).symm (Nat.add_zero _).symm rfl ?_
        unfold itC at h0
        rw [if_neg (by omega), if_neg (fun z => z n0), if_pos n1] at h0
        exact h0 _ _ _ _ (fun z => by have z2 : ks (h 249) (h 240 16) (ke (h 249) (h 240 16) a) = -9 := z; omega)
    ·
      refine z_istore_n dX10_readChild_28 (by decide) rfl lss_2_1 ?_
      refine z_aload_n dX10_readChild_29 rfl (by omega) ?_
      refine z_callV (T := mX10_end) (As := []) kX10_end ml_X10_123 ⟨by decide, by decide⟩ dX10_readChild_30 rfl rfl (Nat.le_of_ble_eq_true rfl) sh_240 ⟨by decide, rfl⟩ (Nat.le_refl _) (Nat.le_refl _) (qX10_end_f hg (by omega) ?_)
      refine z_aload_n dX10_readChild_33 rfl (by omega) ?_
      refine y_geti (k' := 18) fl_X10_42 rfl dX10_readChild_34 sh_240 (by decide) MH_r18 ?_
      refine z_bipush dX10_readChild_37 ⟨by decide, by decide⟩ ?_
      refine z_icmp_ne (tgt := 62) dX10_readChild_39 (by decide) (fun _ => ?_) (fun q => False.elim (by omega))
      refine z_ret (v := none) dX10_readChild_62 trivial (Nat.add_zero _).symm (Nat.add_zero _).symm rfl ?_
      unfold itC at h0
      rw [if_neg (by omega), if_pos n0] at h0
      exact h0 _ _ _ _ (fun z => by have z2 : ks (h 249) (h 240 16) a = -9 := z; omega)
theorem qX10_readRooms {l : Launch} {g h G : zH} {Q : zQt} {a c q : Int} (hg : zGd g) (hL : 0 ≤ h 240 16 ∧ h 240 16 ≤ 150) (hT : ∀ i, 0 ≤ i → i < h 240 16 → 0 ≤ h 249 i ∧ h 249 i ≤ 255) {F : zH} (hF : FO F) (rm : RM F G) (a0 : 0 ≤ a) (a1 : a ≤ h 240 16) (q0 : 0 ≤ q) {i : Int} (i0 : 0 ≤ i) (h0 : ∀ G' a' c' q', ¬ (itR F (h 249) (h 240 16) a q i).1 = -9 → Q none (SHL, g) (MH h G' a' (itR F (h 249) (h 240 16) a q i).1 c' q')) (h1 : ∀ G', (itR F (h 249) (h 240 16) a q i).1 = -9 → RM (itR F (h 249) (h 240 16) a q i).2.1 G' → Q none (SHL, g) (MH h G' (ke (h 249) (h 240 16) (itR F (h 249) (h 240 16) a q i).2.2) (-9) (kc (h 249) (h 240 16) (itR F (h 249) (h 240 16) a q i).2.2) (ks (h 249) (h 240 16) (itR F (h 249) (h 240 16) a q i).2.2))) : zC l mX10_readRooms [zr 240, zi i] (SHL, g) (MH h G a (-9) c q) Q := by
  refine z_method kX10_readRooms.1 rfl (Nat.le_of_ble_eq_true rfl) (fun hok hh => ?_)
  obtain ⟨⟨f0, f1, f2, f3⟩, fp, fd, fc⟩ := id hF
  have u1 := ks_r (X := h 249) a1
  have w1 := ke_r (X := h 249) a1
  have u2 := ks_r (X := h 249) w1.2
  have w2 := ke_r (X := h 249) w1.2
  refine z_aload_n dX10_readRooms_0 rfl (by omega) ?_
  refine z_iload_n dX10_readRooms_1 rfl ?_
  refine z_if_ne (tgt := 9) dX10_readRooms_2 (by decide) (fun c2 => ?_) (fun c2 => ?_)
  ·
    refine z_iconst dX10_readRooms_9 ⟨by decide, by decide⟩ ?_
    refine z_callV (T := mX10_must) (As := [_]) kX10_must ml_X10_104 ⟨by decide, by decide⟩ dX10_readRooms_10 rfl rfl (Nat.le_of_ble_eq_true rfl) sh_240 ⟨by decide, rfl⟩ (Nat.le_refl _) (Nat.le_refl _) (qX10_must_0 hg ?_)
    refine z_aload_n dX10_readRooms_13 rfl (by omega) ?_
    refine z_callV (T := mX10_goOn) (As := []) kX10_goOn ml_X10_108 ⟨by decide, by decide⟩ dX10_readRooms_14 rfl rfl (Nat.le_of_ble_eq_true rfl) sh_240 ⟨by decide, rfl⟩ (Nat.le_refl _) (Nat.le_refl _) (qX10_goOn_f hg (by omega) ?_)
    refine z_aload_n dX10_readRooms_17 rfl (by omega) ?_
    refine z_iconst dX10_readRooms_18 ⟨by decide, by decide⟩ ?_
    refine z_bipush dX10_readRooms_19 ⟨by decide, by decide⟩ ?_
    refine z_callV (T := mX10_number) (As := [_, _]) kX10_number ml_X10_117 ⟨by decide, by decide⟩ dX10_readRooms_21 rfl rfl (Nat.le_of_ble_eq_true rfl) sh_240 ⟨by decide, rfl⟩ (Nat.le_refl _) (Nat.le_refl _) (qX10_number_f hg (by omega) ?_)
    refine z_istore_n dX10_readRooms_24 (by decide) rfl lss_3_2 ?_
    refine z_aload_n dX10_readRooms_25 rfl (by omega) ?_
    refine z_callV (T := mX10_end) (As := []) kX10_end ml_X10_123 ⟨by decide, by decide⟩ dX10_readRooms_26 rfl rfl (Nat.le_of_ble_eq_true rfl) sh_240 ⟨by decide, rfl⟩ (Nat.le_refl _) (Nat.le_refl _) (qX10_end_f hg (by omega) ?_)
    refine z_aload_n dX10_readRooms_29 rfl (by omega) ?_
    refine z_aload_n dX10_readRooms_30 rfl (by omega) ?_
    refine y_geti (k' := 18) fl_X10_42 rfl dX10_readRooms_31 sh_240 (by decide) MH_r18 ?_
    refine z_bipush dX10_readRooms_34 ⟨by decide, by decide⟩ ?_
    refine z_icmp_ne (tgt := 43) dX10_readRooms_36 (by decide) (fun _ => ?_) (fun q => False.elim (by omega))
    refine z_iconst dX10_readRooms_43 ⟨by decide, by decide⟩ ?_
    refine y_puti (k' := 21) fl_X10_114 rfl dX10_readRooms_44 sh_240 (by decide)  ?_
    rw [MH_wg (by decide) (by decide)]
    refine z_ret (v := none) dX10_readRooms_47 trivial (Nat.add_zero _).symm (Nat.add_zero _).symm rfl ?_
    unfold itR at h0
    rw [if_pos (by omega)] at h0
    exact h0 _ _ _ _ (fun z => by have z2 : q = -9 := z; omega)
  ·
    refine z_iconst dX10_readRooms_5 ⟨by decide, by decide⟩ ?_
    refine z_goto (tgt := 10) dX10_readRooms_6 (by decide) ?_
    refine z_callV (T := mX10_must) (As := [_]) kX10_must ml_X10_104 ⟨by decide, by decide⟩ dX10_readRooms_10 rfl rfl (Nat.le_of_ble_eq_true rfl) sh_240 ⟨by decide, rfl⟩ (Nat.le_refl _) (Nat.le_refl _) (qX10_must_1 hg ?_)
    refine z_aload_n dX10_readRooms_13 rfl (by omega) ?_
    refine z_callV (T := mX10_goOn) (As := []) kX10_goOn ml_X10_108 ⟨by decide, by decide⟩ dX10_readRooms_14 rfl rfl (Nat.le_of_ble_eq_true rfl) sh_240 ⟨by decide, rfl⟩ (Nat.le_refl _) (Nat.le_refl _) (qX10_goOn hg hL hT (by omega) (by omega) ?_)
    refine z_aload_n dX10_readRooms_17 rfl (by omega) ?_
    refine z_iconst dX10_readRooms_18 ⟨by decide, by decide⟩ ?_
    refine z_bipush dX10_readRooms_19 ⟨by decide, by decide⟩ ?_
    refine z_callV (T := mX10_number) (As := [_, _]) kX10_number ml_X10_117 ⟨by decide, by decide⟩ dX10_readRooms_21 rfl rfl (Nat.le_of_ble_eq_true rfl) sh_240 ⟨by decide, rfl⟩ (Nat.le_refl _) (Nat.le_refl _) (qX10_number hg hL hT (by omega) (by omega) (by omega) (fun n0 => ?_) (fun n0 => ?_))
    ·
      refine z_istore_n dX10_readRooms_24 (by decide) rfl lss_3_2 ?_
      refine z_aload_n dX10_readRooms_25 rfl (by omega) ?_
      refine z_callV (T := mX10_end) (As := []) kX10_end ml_X10_123 ⟨by decide, by decide⟩ dX10_readRooms_26 rfl rfl (Nat.le_of_ble_eq_true rfl) sh_240 ⟨by decide, rfl⟩ (Nat.le_refl _) (Nat.le_refl _) (qX10_end hg hL hT (by omega) (by omega) (by omega) (fun n1 => ?_) (fun n1 => ?_))
      ·
        refine z_aload_n dX10_readRooms_29 rfl (by omega) ?_
        refine z_aload_n dX10_readRooms_30 rfl (by omega) ?_
        refine y_geti (k' := 18) fl_X10_42 rfl dX10_readRooms_31 sh_240 (by decide) MH_r18 ?_
        refine z_bipush dX10_readRooms_34 ⟨by decide, by decide⟩ ?_
        refine z_icmp_ne (tgt := 43) dX10_readRooms_36 (by decide) (fun q => False.elim (by omega)) (fun _ => ?_)
        refine z_iload_n dX10_readRooms_39 rfl ?_
        refine z_goto (tgt := 44) dX10_readRooms_40 (by decide) ?_
        refine y_puti (k' := 21) fl_X10_114 rfl dX10_readRooms_44 sh_240 (by decide)  ?_
        rw [MH_wg (by decide) (by decide)]
        refine z_ret (v := none) dX10_readRooms_47 trivial (Nat.add_zero _).symm (Nat.add_zero _).symm rfl ?_
        unfold itR at h1
        rw [if_neg (by omega), if_neg (fun z => z n0), if_neg (fun z => z n1)] at h1
        exact h1 _ rfl (RM_R rm _)
      ·
        refine z_aload_n dX10_readRooms_29 rfl (by omega) ?_
        refine z_aload_n dX10_readRooms_30 rfl (by omega) ?_
        refine y_geti (k' := 18) fl_X10_42 rfl dX10_readRooms_31 sh_240 (by decide) MH_r18 ?_
        refine z_bipush dX10_readRooms_34 ⟨by decide, by decide⟩ ?_
        refine z_icmp_ne (tgt := 43) dX10_readRooms_36 (by decide) (fun _ => ?_) (fun q => False.elim (by omega))
        refine z_iconst dX10_readRooms_43 ⟨by decide, by decide⟩ ?_
        refine y_puti (k' := 21) fl_X10_114 rfl dX10_readRooms_44 sh_240 (by decide)  ?_
        rw [MH_wg (by decide) (by decide)]
        refine z_ret (v := none) dX10_readRooms_47 trivial (Nat.add_zero _).symm (Nat.add_zero _).symm rfl ?_
        unfold itR at h0
        rw [if_neg (by omega), if_neg (fun z => z n0), if_pos n1] at h0
        exact h0 _ _ _ _ (fun z => by have z2 : ks (h 249) (h 240 16) (ke (h 249) (h 240 16) a) = -9 := z; omega)
    ·
      refine z_istore_n dX10_readRooms_24 (by decide) rfl lss_3_2 ?_
      refine z_aload_n dX10_readRooms_25 rfl (by omega) ?_
      refine z_callV (T := mX10_end) (As := []) kX10_end ml_X10_123 ⟨by decide, by decide⟩ dX10_readRooms_26 rfl rfl (Nat.le_of_ble_eq_true rfl) sh_240 ⟨by decide, rfl⟩ (Nat.le_refl _) (Nat.le_refl _) (qX10_end_f hg (by omega) ?_)
      refine z_aload_n dX10_readRooms_29 rfl (by omega) ?_
      refine z_aload_n dX10_readRooms_30 rfl (by omega) ?_
      refine y_geti (k' := 18) fl_X10_42 rfl dX10_readRooms_31 sh_240 (by decide) MH_r18 ?_
      refine z_bipush dX10_readRooms_34 ⟨by decide, by decide⟩ ?_
      refine z_icmp_ne (tgt := 43) dX10_readRooms_36 (by decide) (fun _ => ?_) (fun q => False.elim (by omega))
      refine z_iconst dX10_readRooms_43 ⟨by decide, by decide⟩ ?_
      refine y_puti (k' := 21) fl_X10_114 rfl dX10_readRooms_44 sh_240 (by decide)  ?_
      rw [MH_wg (by decide) (by decide)]
      refine z_ret (v := none) dX10_readRooms_47 trivial (Nat.add_zero _).symm (Nat.add_zero _).symm rfl ?_
      unfold itR at h0
      rw [if_neg (by omega), if_pos n0] at h0
      exact h0 _ _ _ _ (fun z => by have z2 : ks (h 249) (h 240 16) a = -9 := z; omega)
