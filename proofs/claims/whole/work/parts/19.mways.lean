/-! The ways are one; what the reference answers by them. -/
theorem Dist_le {h : zH} (hm : MB h) {d : Int} (d0 : 0 ≤ d) (d1 : d < h 240 3) {f f' : Int → Int} (hd : DistOK h d f) (hd' : DistOK h d f') : ∀ (n : Nat) (v : Int), 0 ≤ v → v < 8 → f v ≠ -9 → f v < n → f' v ≠ -9 ∧ f' v ≤ f v := by
  intro n
  induction n with
  | zero =>
    intro v v0 v1 hv hn
    have := hd.2.1 v v0 v1
    omega
  | succ n ih =>
    intro v v0 v1 hv hn
    by_cases hs : v = h 244 (4 * d)
    · rw [hs, hd.1, hd'.1]
      omega
    · obtain ⟨u, c, g1, g2, g3⟩ := hd.2.2.2 v v0 v1 hv hs
      have hr := edg_r hm d0 d1 g1
      have m0 := hm.1.1
      have a := ih u (by omega) (by omega) g2 (by omega)
      have b := hd'.2.2.1 u v c g1 a.1
      exact ⟨b.1, by omega⟩
theorem Dist_one {h : zH} (hm : MB h) {d : Int} (d0 : 0 ≤ d) (d1 : d < h 240 3) {f f' : Int → Int} (hd : DistOK h d f) (hd' : DistOK h d f') (v : Int) (v0 : 0 ≤ v) (v1 : v < 8) : f v = f' v := by
  by_cases hv : f v = -9
  · by_cases hv' : f' v = -9
    · rw [hv, hv']
    · have := Dist_le hm d0 d1 hd' hd 252008 v v0 v1 hv' (by have := hd'.2.1 v v0 v1; omega)
      omega
  · have a := Dist_le hm d0 d1 hd hd' 252008 v v0 v1 hv (by have := hd.2.1 v v0 v1; omega)
    have b := Dist_le hm d0 d1 hd' hd 252008 v v0 v1 a.1 (by have := hd'.2.1 v v0 v1; omega)
    omega
/-- the ways of a director -/
noncomputable def dist (h : zH) (d : Int) : Int → Int := Classical.epsilon (fun f => DistOK h d f)
theorem dist_eq {h : zH} (hm : MB h) {d : Int} (d0 : 0 ≤ d) (d1 : d < h 240 3) {f : Int → Int} (hd : DistOK h d f) {v : Int} (v0 : 0 ≤ v) (v1 : v < 8) : f v = dist h d v :=
  Dist_one hm d0 d1 hd (Classical.epsilon_spec (p := fun f => DistOK h d f) ⟨f, hd⟩) v v0 v1
noncomputable def reachF (h : zH) (d : Int) : Int := bset (fun r => decide (dist h d r ≠ -9)) (h 240 0).toNat
theorem lpX10_reach {l : Launch} {g h : zH} {Q : zQt} {d : Int} {f : Int → Int} (hg : zGd g) (m0 : 2 ≤ h 240 0 ∧ h 240 0 ≤ 8) (K : zW zX0 l mX10_reach ((SHL, g).1.length + zmc mX10_reach) (ztot (SHL, g) + zms mX10_reach) Q 44 [some (zr 240), some (zi d), some (zi (bset (fun r => decide (f r ≠ -9)) ((h 240 0).toNat))), some (zi (((h 240 0).toNat : Nat) : Int))] [] (SHL, g) (hf h f)) : ∀ (n i : Nat), i + n = (h 240 0).toNat → zW zX0 l mX10_reach ((SHL, g).1.length + zmc mX10_reach) (ztot (SHL, g) + zms mX10_reach) Q 9 [some (zr 240), some (zi d), some (zi (bset (fun r => decide (f r ≠ -9)) i)), some (zi (i : Int))] [] (SHL, g) (hf h f) := by
  intro n
  induction n with
  | zero =>
    intro i hi 
    have e9 : i = (h 240 0).toNat := by omega
    subst e9
    refine z_iload_n dX10_reach_9 rfl ?_
    refine z_aload_n dX10_reach_10 rfl (by omega) ?_
    refine y_geti (k' := 0) fl_X10_7 rfl dX10_reach_11 sh_240 (by decide) (hf_ne (by decide)) ?_
    refine z_icmp_ge (tgt := 44) dX10_reach_14 (by decide) (fun _ => ?_) (fun q => False.elim (by omega))
    exact K
  | succ n ih =>
    intro i hi 
    refine z_iload_n dX10_reach_9 rfl ?_
    refine z_aload_n dX10_reach_10 rfl (by omega) ?_
    refine y_geti (k' := 0) fl_X10_7 rfl dX10_reach_11 sh_240 (by decide) (hf_ne (by decide)) ?_
    refine z_icmp_ge (tgt := 44) dX10_reach_14 (by decide) (fun q => False.elim (by omega)) (fun _ => ?_)
    refine z_iload_n dX10_reach_17 rfl ?_
    refine z_aload_n dX10_reach_18 rfl (by omega) ?_
    refine y_geta (k' := 30) fl_X10_60 rfl dX10_reach_19 sh_240 (by decide) (gf_240_30 hg) ?_
    refine z_iload_n dX10_reach_22 rfl ?_
    refine z_iaload dX10_reach_23 sh_255 (by omega) (by omega) (hf_at (by omega) (by omega)) ?_
    refine z_bipush dX10_reach_24 ⟨by decide, by decide⟩ ?_
    refine z_icmp_eq (tgt := 35) dX10_reach_26 (by decide) (fun c26 => ?_) (fun c26 => ?_)
    ·
      refine z_iconst dX10_reach_35 ⟨by decide, by decide⟩ ?_
      refine z_ior dX10_reach_36 ?_
      refine z_istore_n dX10_reach_37 (by decide) rfl lss_4_2 ?_
      refine y_iinc dX10_reach_38 (by decide) rfl rfl (by omega) (by omega) lss_4_3 ?_
      refine z_goto (tgt := 9) dX10_reach_41 (by decide) ?_
      have q := ih (i + 1) (by omega)
      first
        | (rw [bset_t (f := fun r => decide (f r ≠ -9)) (decide_eq_true (show f (i : Int) ≠ -9 from c26))] at q; exact q)
        | (rw [bset_f (f := fun r => decide (f r ≠ -9)) (decide_eq_false (show ¬ f (i : Int) ≠ -9 by omega))] at q; rw [bor_0 (bset_32 (by omega))]; exact q)
    ·
      refine z_iconst dX10_reach_29 ⟨by decide, by decide⟩ ?_
      refine z_iload_n dX10_reach_30 rfl ?_
      refine z_ishl dX10_reach_31 ?_
      refine z_goto (tgt := 36) dX10_reach_32 (by decide) ?_
      refine z_ior dX10_reach_36 ?_
      refine z_istore_n dX10_reach_37 (by decide) rfl lss_4_2 ?_
      refine y_iinc dX10_reach_38 (by decide) rfl rfl (by omega) (by omega) lss_4_3 ?_
      refine z_goto (tgt := 9) dX10_reach_41 (by decide) ?_
      have q := ih (i + 1) (by omega)
      first
        | (rw [bset_t (f := fun r => decide (f r ≠ -9)) (decide_eq_true (show f (i : Int) ≠ -9 from c26))] at q; exact q)
        | (rw [bset_f (f := fun r => decide (f r ≠ -9)) (decide_eq_false (show ¬ f (i : Int) ≠ -9 by omega))] at q; rw [bor_0 (bset_32 (by omega))]; exact q)
theorem qX10_reach {l : Launch} {g h : zH} {Q : zQt} (hg : zGd g) (hm : MB h) {d : Int} (d0 : 0 ≤ d) (d1 : d < h 240 3) (hQ : ∀ f, Q (some (zi (reachF h d))) (SHL, g) (hf h f)) : zC l mX10_reach [zr 240, zi d] (SHL, g) h Q := by
  refine z_method kX10_reach.1 rfl (Nat.le_of_ble_eq_true rfl) (fun hok hh => ?_)
  obtain ⟨m0, m1, m2, m3, m4, m5, m6, m7⟩ := hm.1
  refine z_aload_n dX10_reach_0 rfl (by omega) ?_
  refine z_iload_n dX10_reach_1 rfl ?_
  refine z_callV (T := mX10_lay) (As := [_]) kX10_lay ml_X10_168 ⟨by decide, by decide⟩ dX10_reach_2 rfl rfl (Nat.le_of_ble_eq_true rfl) sh_240 ⟨by decide, rfl⟩ (Nat.le_refl _) (Nat.le_refl _) (qX10_lay hg hm d0 d1 (fun f hd => ?_))
  refine z_iconst dX10_reach_5 ⟨by decide, by decide⟩ ?_
  refine z_istore_n dX10_reach_6 (by decide) rfl lss_4_2 ?_
  refine z_iconst dX10_reach_7 ⟨by decide, by decide⟩ ?_
  refine z_istore_n dX10_reach_8 (by decide) rfl lss_4_3 ?_
  refine lpX10_reach (d := d) (f := f) hg m0 ?_ _ 0 (Nat.zero_add _)
  have e9 : bset (fun r => decide (f r ≠ -9)) (h 240 0).toNat = reachF h d := bset_congr _ (fun r r0 r1 => by rw [dist_eq hm d0 d1 hd r0 (by omega)])
  rw [e9]
  refine z_iload_n dX10_reach_44 rfl ?_
  refine z_ret (v := some (zi _)) dX10_reach_45 trivial (Nat.add_zero _).symm (Nat.add_zero _).symm rfl ?_
  exact hQ f
noncomputable def wayF (h : zH) (d r w : Int) : Int := if 0 ≤ d ∧ d < h 240 3 then (if 0 ≤ r ∧ r < h 240 0 then (if 0 ≤ w ∧ w ≤ 1 then (if dist h d r = -9 then -9 else if w = 0 then zdiv (dist h d r) 100 else zmod (dist h d r) 100) else -1) else -1) else -1
theorem qX10_way {l : Launch} {g h : zH} {Q : zQt} (hg : zGd g) (hm : MB h) {d r x : Int} (hQ : ∀ f, Q (some (zi (wayF h d r x))) (SHL, g) (hf h f)) (hQ0 : Q (some (zi (wayF h d r x))) (SHL, g) h) : zC l mX10_way [zr 240, zi d, zi r, zi x] (SHL, g) h Q := by
  refine z_method kX10_way.1 rfl (Nat.le_of_ble_eq_true rfl) (fun hok hh => ?_)
  obtain ⟨m0, m1, m2, m3, m4, m5, m6, m7⟩ := hm.1
  refine z_aload_n dX10_way_0 rfl (by omega) ?_
  refine z_iload_n dX10_way_1 rfl ?_
  refine z_callV (T := mX10_isDirector) (As := [_]) kX10_isDirector ml_X10_179 ⟨by decide, by decide⟩ dX10_way_2 rfl rfl (Nat.le_of_ble_eq_true rfl) sh_240 ⟨by decide, rfl⟩ (Nat.le_refl _) (Nat.le_refl _) (qX10_isDirector hg hm (fun b2 => ?_) (fun b2 => ?_))
  ·
    refine z_if_eq (tgt := 26) dX10_way_5 (by decide) (fun q => False.elim (by omega)) (fun _ => ?_)
    refine z_aload_n dX10_way_8 rfl (by omega) ?_
    refine z_iload_n dX10_way_9 rfl ?_
    refine z_callV (T := mX10_isRoom) (As := [_]) kX10_isRoom ml_X10_202 ⟨by decide, by decide⟩ dX10_way_10 rfl rfl (Nat.le_of_ble_eq_true rfl) sh_240 ⟨by decide, rfl⟩ (Nat.le_refl _) (Nat.le_refl _) (qX10_isRoom hg hm (fun b10 => ?_) (fun b10 => ?_))
    ·
      refine z_if_eq (tgt := 26) dX10_way_13 (by decide) (fun q => False.elim (by omega)) (fun _ => ?_)
      refine z_iload_n dX10_way_16 rfl ?_
      refine z_i2l dX10_way_17 ?_
      refine z_lconst0 dX10_way_18 ?_
      refine z_lconst1 dX10_way_19 ?_
      refine z_callS (T := mX10_in) (As := [_, _, _]) kX10_in ml_X10_69 ⟨by decide, by decide⟩ dX10_way_20 rfl rfl (Nat.le_of_ble_eq_true rfl) (Nat.le_refl _) (Nat.le_refl _) (qX10_in (fun b20 => ?_) (fun b20 => ?_))
      ·
        refine z_if_ne (tgt := 28) dX10_way_23 (by decide) (fun _ => ?_) (fun q => False.elim (by omega))
        refine z_aload_n dX10_way_28 rfl (by omega) ?_
        refine z_iload_n dX10_way_29 rfl ?_
        refine z_callV (T := mX10_lay) (As := [_]) kX10_lay ml_X10_168 ⟨by decide, by decide⟩ dX10_way_30 rfl rfl (Nat.le_of_ble_eq_true rfl) sh_240 ⟨by decide, rfl⟩ (Nat.le_refl _) (Nat.le_refl _) (qX10_lay hg hm b2.1 b2.2 (fun f hd => ?_))
        have ed := dist_eq hm b2.1 b2.2 hd b10.1 (by omega)
        have hQ := hQ f
        rw [wayF, if_pos b2, if_pos b10, if_pos b20, ← ed] at hQ
        refine z_aload_n dX10_way_33 rfl (by omega) ?_
        refine y_geta (k' := 30) fl_X10_60 rfl dX10_way_34 sh_240 (by decide) (gf_240_30 hg) ?_
        refine z_iload_n dX10_way_37 rfl ?_
        refine z_iaload dX10_way_38 sh_255 (by omega) (by omega) (hf_at (by omega) (by omega)) ?_
        refine z_bipush dX10_way_39 ⟨by decide, by decide⟩ ?_
        refine z_icmp_ne (tgt := 49) dX10_way_41 (by decide) (fun c41 => ?_) (fun c41 => ?_)
        ·
          refine z_iload_n dX10_way_49 rfl ?_
          refine z_if_ne (tgt := 65) dX10_way_50 (by decide) (fun c50 => ?_) (fun c50 => ?_)
          ·
            refine z_aload_n dX10_way_65 rfl (by omega) ?_
            refine y_geta (k' := 30) fl_X10_60 rfl dX10_way_66 sh_240 (by decide) (gf_240_30 hg) ?_
            refine z_iload_n dX10_way_69 rfl ?_
            refine z_iaload dX10_way_70 sh_255 (by omega) (by omega) (hf_at (by omega) (by omega)) ?_
            refine z_bipush dX10_way_71 ⟨by decide, by decide⟩ ?_
            refine z_irem dX10_way_73 (by omega) ?_
            refine z_ret (v := some (zi _)) dX10_way_74 trivial (Nat.add_zero _).symm (Nat.add_zero _).symm rfl ?_
            first
              | (rw [if_pos (by omega)] at hQ; exact hQ)
              | (rw [if_neg (by omega), if_pos (by omega)] at hQ; exact hQ)
              | (rw [if_neg (by omega), if_neg (by omega)] at hQ; exact hQ)
          ·
            refine z_aload_n dX10_way_53 rfl (by omega) ?_
            refine y_geta (k' := 30) fl_X10_60 rfl dX10_way_54 sh_240 (by decide) (gf_240_30 hg) ?_
            refine z_iload_n dX10_way_57 rfl ?_
            refine z_iaload dX10_way_58 sh_255 (by omega) (by omega) (hf_at (by omega) (by omega)) ?_
            refine z_bipush dX10_way_59 ⟨by decide, by decide⟩ ?_
            refine z_idiv dX10_way_61 (by omega) ?_
            refine z_goto (tgt := 74) dX10_way_62 (by decide) ?_
            refine z_ret (v := some (zi _)) dX10_way_74 trivial (Nat.add_zero _).symm (Nat.add_zero _).symm rfl ?_
            first
              | (rw [if_pos (by omega)] at hQ; exact hQ)
              | (rw [if_neg (by omega), if_pos (by omega)] at hQ; exact hQ)
              | (rw [if_neg (by omega), if_neg (by omega)] at hQ; exact hQ)
        ·
          refine z_bipush dX10_way_44 ⟨by decide, by decide⟩ ?_
          refine z_goto (tgt := 74) dX10_way_46 (by decide) ?_
          refine z_ret (v := some (zi _)) dX10_way_74 trivial (Nat.add_zero _).symm (Nat.add_zero _).symm rfl ?_
          first
            | (rw [if_pos (by omega)] at hQ; exact hQ)
            | (rw [if_neg (by omega), if_pos (by omega)] at hQ; exact hQ)
            | (rw [if_neg (by omega), if_neg (by omega)] at hQ; exact hQ)
      ·
        refine z_if_ne (tgt := 28) dX10_way_23 (by decide) (fun q => False.elim (by omega)) (fun _ => ?_)
        refine z_iconst dX10_way_26 ⟨by decide, by decide⟩ ?_
        refine z_ret (v := some (zi _)) dX10_way_27 trivial (Nat.add_zero _).symm (Nat.add_zero _).symm rfl ?_
        first
          | (rw [wayF, if_neg b2] at hQ0; exact hQ0)
          | (rw [wayF, if_pos b2, if_neg b10] at hQ0; exact hQ0)
          | (rw [wayF, if_pos b2, if_pos b10, if_neg b20] at hQ0; exact hQ0)
    ·
      refine z_if_eq (tgt := 26) dX10_way_13 (by decide) (fun _ => ?_) (fun q => False.elim (by omega))
      refine z_iconst dX10_way_26 ⟨by decide, by decide⟩ ?_
      refine z_ret (v := some (zi _)) dX10_way_27 trivial (Nat.add_zero _).symm (Nat.add_zero _).symm rfl ?_
      first
        | (rw [wayF, if_neg b2] at hQ0; exact hQ0)
        | (rw [wayF, if_pos b2, if_neg b10] at hQ0; exact hQ0)
        | (rw [wayF, if_pos b2, if_pos b10, if_neg b20] at hQ0; exact hQ0)
  ·
    refine z_if_eq (tgt := 26) dX10_way_5 (by decide) (fun _ => ?_) (fun q => False.elim (by omega))
    refine z_iconst dX10_way_26 ⟨by decide, by decide⟩ ?_
    refine z_ret (v := some (zi _)) dX10_way_27 trivial (Nat.add_zero _).symm (Nat.add_zero _).symm rfl ?_
    first
      | (rw [wayF, if_neg b2] at hQ0; exact hQ0)
      | (rw [wayF, if_pos b2, if_neg b10] at hQ0; exact hQ0)
      | (rw [wayF, if_pos b2, if_pos b10, if_neg b20] at hQ0; exact hQ0)
/-- the heap with the ways and where they meet -/
def hmt (h : zH) (f : Int → Int) (a b : Int) : zH := zup (zup (hf h f) 240 31 a) 240 32 b
theorem hmt_hf (h : zH) (f f' : Int → Int) (a b : Int) : hf (hmt h f a b) f' = hmt h f' a b := by
  funext x y
  unfold hmt hf zup
  by_cases hx : x = 255
  · subst hx
    simp
    split <;> rfl
  · simp [hx]
theorem MB_hmt {h : zH} {f : Int → Int} {a b : Int} (hm : MB h) : MB (hmt h f a b) := hm
theorem hmt_1 (h : zH) (f : Int → Int) (a b v : Int) : zup (hmt h f a b) 240 31 v = hmt h f v b := by
  funext x y
  unfold hmt zup
  by_cases h1 : x = 240 ∧ y = 31
  · obtain ⟨rfl, rfl⟩ := h1; simp
  · by_cases h2 : x = 240 ∧ y = 32
    · obtain ⟨rfl, rfl⟩ := h2; simp
    · simp [h1, h2]
theorem hmt_2 (h : zH) (f : Int → Int) (a b v : Int) : zup (hmt h f a b) 240 32 v = hmt h f a v := by
  unfold hmt
  rw [zup_zup]
theorem hmt_h (h : zH) (a b : Int) : zup (zup h 240 31 a) 240 32 b = hmt h (h 255) a b := by
  unfold hmt
  congr 2
  funext x y
  unfold hf
  split
  · next q => rw [q.1]
  · rfl
theorem zdiv_r {x : Int} (h : x = -9 ∨ (0 ≤ x ∧ x ≤ 252007)) : 0 ≤ zdiv x 100 ∧ zdiv x 100 ≤ 2520 := by
  rcases h with rfl | h
  · decide
  · have e1 : (Int32.ofInt x).toInt = x := of_toInt (by unfold r32; omega)
    have e2 : (Int32.ofInt 100).toInt = 100 := by decide
    have e3 := lg_idiv_nonneg (x := Int32.ofInt x) (y := Int32.ofInt 100) (by omega) (by omega)
    unfold zdiv
    rw [e3, e1, e2]
    omega
noncomputable def allK (h : zH) (r : Int) : Nat → Bool
  | 0 => true
  | k + 1 => allK h r k && decide (dist h k r ≠ -9)
noncomputable def sumK (h : zH) (r : Int) : Nat → Int := sumN (fun d => zdiv (dist h d r) 100)
noncomputable def meetB (h : zH) : Nat → Int × Int
  | 0 => (-9, -9)
  | r + 1 => if allK h r (h 240 3).toNat = true ∧ ((meetB h r).1 = -9 ∨ sumK h r (h 240 3).toNat < (meetB h r).2) then ((r : Int), sumK h r (h 240 3).toNat) else meetB h r
theorem meetB_t {h : zH} {r : Nat} (hc : allK h r (h 240 3).toNat = true ∧ ((meetB h r).1 = -9 ∨ sumK h r (h 240 3).toNat < (meetB h r).2)) : meetB h (r + 1) = ((r : Int), sumK h r (h 240 3).toNat) := if_pos hc
theorem meetB_f {h : zH} {r : Nat} (hc : ¬ (allK h r (h 240 3).toNat = true ∧ ((meetB h r).1 = -9 ∨ sumK h r (h 240 3).toNat < (meetB h r).2))) : meetB h (r + 1) = meetB h r := if_neg hc
noncomputable def meetF (h : zH) : Int × Int := if 0 < h 240 3 then meetB h (h 240 0).toNat else (-9, -9)
theorem lpX10_meet1 {l : Launch} {g h : zH} {Q : zQt} {r : Nat} {a b : Int} (hg : zGd g) (hm : MB h) (hr : (r : Int) < h 240 0)
    (K : ∀ f, 0 ≤ sumK h r (h 240 3).toNat → sumK h r (h 240 3).toNat ≤ 20000 → zW zX0 l mX10_meet ((SHL, g).1.length + zmc mX10_meet) (ztot (SHL, g) + zms mX10_meet) Q 90 [some (zr 240), some (zi (r : Int)), some (zi (sumK h r (h 240 3).toNat)), some (zi (b2i (allK h r (h 240 3).toNat))), some (zi (((h 240 3).toNat : Nat) : Int))] [] (SHL, g) (hmt h f a b)) :
    ∀ (n i : Nat) (f : Int → Int), i + n = (h 240 3).toNat → 0 ≤ sumK h r i → sumK h r i ≤ 2520 * i → zW zX0 l mX10_meet ((SHL, g).1.length + zmc mX10_meet) (ztot (SHL, g) + zms mX10_meet) Q 36 [some (zr 240), some (zi (r : Int)), some (zi (sumK h r i)), some (zi (b2i (allK h r i))), some (zi (i : Int))] [] (SHL, g) (hmt h f a b) := by
  obtain ⟨m0, m1, m2, m3, m4, m5, m6, m7⟩ := hm.1
  intro n
  induction n with
  | zero =>
    intro i f hi k0 k1
    have e9 : i = (h 240 3).toNat := by omega
    subst e9
    refine z_iload dX10_meet_36 rfl ?_
    refine z_aload_n dX10_meet_38 rfl (by omega) ?_
    refine y_geti (k' := 3) fl_X10_66 rfl dX10_meet_39 sh_240 (by decide) (show hmt h f a b 240 3 = h 240 3 from rfl) ?_
    refine z_icmp_ge (tgt := 90) dX10_meet_42 (by decide) (fun _ => ?_) (fun q => False.elim (by omega))
    exact K f k0 (by omega)
  | succ n ih =>
    intro i f hi k0 k1
    refine z_iload dX10_meet_36 rfl ?_
    refine z_aload_n dX10_meet_38 rfl (by omega) ?_
    refine y_geti (k' := 3) fl_X10_66 rfl dX10_meet_39 sh_240 (by decide) (show hmt h f a b 240 3 = h 240 3 from rfl) ?_
    refine z_icmp_ge (tgt := 90) dX10_meet_42 (by decide) (fun q => False.elim (by omega)) (fun _ => ?_)
    refine z_aload_n dX10_meet_45 rfl (by omega) ?_
    refine z_iload dX10_meet_46 rfl ?_
    refine z_callV (T := mX10_lay) (As := [_]) kX10_lay ml_X10_168 ⟨by decide, by decide⟩ dX10_meet_48 rfl rfl (Nat.le_of_ble_eq_true rfl) sh_240 ⟨by decide, rfl⟩ (Nat.le_refl _) (Nat.le_refl _) (qX10_lay hg (MB_hmt hm) (by omega) (show (i : Int) < h 240 3 by omega) (fun f' hd => ?_))
    rw [hmt_hf]
    have hd : DistOK h i f' := hd
    have ed := dist_eq hm (by omega) (by omega) hd (v := (r : Int)) (by omega) (by omega)
    have er := hd.2.1 r (by omega) (by omega)
    have zq := zdiv_r er
    have e1 : sumK h r (i + 1) = sumK h r i + zdiv (f' r) 100 := by show sumK h r i + zdiv (dist h i r) 100 = _; rw [ed]
    refine z_iload_n dX10_meet_51 rfl ?_
    refine z_if_eq (tgt := 70) dX10_meet_52 (by decide) (fun c52 => ?_) (fun c52 => ?_)
    ·
      refine z_iconst dX10_meet_70 ⟨by decide, by decide⟩ ?_
      refine z_istore_n dX10_meet_71 (by decide) rfl lss_5_3 ?_
      refine z_iload_n dX10_meet_72 rfl ?_
      refine z_aload_n dX10_meet_73 rfl (by omega) ?_
      refine y_geta (k' := 30) fl_X10_60 rfl dX10_meet_74 sh_240 (by decide) (gf_240_30 hg) ?_
      refine z_iload_n dX10_meet_77 rfl ?_
      refine z_iaload dX10_meet_78 sh_255 (by omega) (by omega) (show hmt h f' a b 255 r = f' r from hf_at (by omega) (by omega)) ?_
      refine z_bipush dX10_meet_79 ⟨by decide, by decide⟩ ?_
      refine z_idiv dX10_meet_81 (by omega) ?_
      refine y_iadd dX10_meet_82 (by omega) (by omega) ?_
      refine z_istore_n dX10_meet_83 (by decide) rfl lss_5_2 ?_
      refine y_iinc dX10_meet_84 (by decide) rfl rfl (by omega) (by omega) lss_5_4 ?_
      refine z_goto (tgt := 36) dX10_meet_87 (by decide) ?_
      have q := ih (i + 1) f' (by omega) (by omega) (by omega)
      first
        | (rw [e1, show allK h r (i + 1) = true by show (allK h r i && _) = true; rw [b2i_1.mp c52, ← ed, decide_eq_true c63]; rfl] at q; exact q)
        | (rw [e1, show allK h r (i + 1) = false by show (allK h r i && _) = false; rw [← ed, decide_eq_false (show ¬ f' (r : Int) ≠ -9 by omega), Bool.and_false]] at q; exact q)
        | (rw [e1, show allK h r (i + 1) = false by show (allK h r i && _) = false; rw [b2i_0.mp c52]; rfl] at q; exact q)
    ·
      refine z_aload_n dX10_meet_55 rfl (by omega) ?_
      refine y_geta (k' := 30) fl_X10_60 rfl dX10_meet_56 sh_240 (by decide) (gf_240_30 hg) ?_
      refine z_iload_n dX10_meet_59 rfl ?_
      refine z_iaload dX10_meet_60 sh_255 (by omega) (by omega) (show hmt h f' a b 255 r = f' r from hf_at (by omega) (by omega)) ?_
      refine z_bipush dX10_meet_61 ⟨by decide, by decide⟩ ?_
      refine z_icmp_eq (tgt := 70) dX10_meet_63 (by decide) (fun c63 => ?_) (fun c63 => ?_)
      ·
        refine z_iconst dX10_meet_70 ⟨by decide, by decide⟩ ?_
        refine z_istore_n dX10_meet_71 (by decide) rfl lss_5_3 ?_
        refine z_iload_n dX10_meet_72 rfl ?_
        refine z_aload_n dX10_meet_73 rfl (by omega) ?_
        refine y_geta (k' := 30) fl_X10_60 rfl dX10_meet_74 sh_240 (by decide) (gf_240_30 hg) ?_
        refine z_iload_n dX10_meet_77 rfl ?_
        refine z_iaload dX10_meet_78 sh_255 (by omega) (by omega) (show hmt h f' a b 255 r = f' r from hf_at (by omega) (by omega)) ?_
        refine z_bipush dX10_meet_79 ⟨by decide, by decide⟩ ?_
        refine z_idiv dX10_meet_81 (by omega) ?_
        refine y_iadd dX10_meet_82 (by omega) (by omega) ?_
        refine z_istore_n dX10_meet_83 (by decide) rfl lss_5_2 ?_
        refine y_iinc dX10_meet_84 (by decide) rfl rfl (by omega) (by omega) lss_5_4 ?_
        refine z_goto (tgt := 36) dX10_meet_87 (by decide) ?_
        have q := ih (i + 1) f' (by omega) (by omega) (by omega)
        first
          | (rw [e1, show allK h r (i + 1) = true by show (allK h r i && _) = true; rw [b2i_1.mp c52, ← ed, decide_eq_true c63]; rfl] at q; exact q)
          | (rw [e1, show allK h r (i + 1) = false by show (allK h r i && _) = false; rw [← ed, decide_eq_false (show ¬ f' (r : Int) ≠ -9 by omega), Bool.and_false]] at q; exact q)
          | (rw [e1, show allK h r (i + 1) = false by show (allK h r i && _) = false; rw [b2i_0.mp c52]; rfl] at q; exact q)
      ·
        refine z_iconst dX10_meet_66 ⟨by decide, by decide⟩ ?_
        refine z_goto (tgt := 71) dX10_meet_67 (by decide) ?_
        refine z_istore_n dX10_meet_71 (by decide) rfl lss_5_3 ?_
        refine z_iload_n dX10_meet_72 rfl ?_
        refine z_aload_n dX10_meet_73 rfl (by omega) ?_
        refine y_geta (k' := 30) fl_X10_60 rfl dX10_meet_74 sh_240 (by decide) (gf_240_30 hg) ?_
        refine z_iload_n dX10_meet_77 rfl ?_
        refine z_iaload dX10_meet_78 sh_255 (by omega) (by omega) (show hmt h f' a b 255 r = f' r from hf_at (by omega) (by omega)) ?_
        refine z_bipush dX10_meet_79 ⟨by decide, by decide⟩ ?_
        refine z_idiv dX10_meet_81 (by omega) ?_
        refine y_iadd dX10_meet_82 (by omega) (by omega) ?_
        refine z_istore_n dX10_meet_83 (by decide) rfl lss_5_2 ?_
        refine y_iinc dX10_meet_84 (by decide) rfl rfl (by omega) (by omega) lss_5_4 ?_
        refine z_goto (tgt := 36) dX10_meet_87 (by decide) ?_
        have q := ih (i + 1) f' (by omega) (by omega) (by omega)
        first
          | (rw [e1, show allK h r (i + 1) = true by show (allK h r i && _) = true; rw [b2i_1.mp c52, ← ed, decide_eq_true c63]; rfl] at q; exact q)
          | (rw [e1, show allK h r (i + 1) = false by show (allK h r i && _) = false; rw [← ed, decide_eq_false (show ¬ f' (r : Int) ≠ -9 by omega), Bool.and_false]] at q; exact q)
          | (rw [e1, show allK h r (i + 1) = false by show (allK h r i && _) = false; rw [b2i_0.mp c52]; rfl] at q; exact q)
theorem lpX10_meet2 {l : Launch} {g h : zH} {Q : zQt} (hg : zGd g) (hm : MB h) (hD : 0 < h 240 3)
    (K : ∀ f x1 x2 x3 x4, zW zX0 l mX10_meet ((SHL, g).1.length + zmc mX10_meet) (ztot (SHL, g) + zms mX10_meet) Q 127 [some (zr 240), x1, x2, x3, x4] [] (SHL, g) (hmt h f (meetB h (h 240 0).toNat).1 (meetB h (h 240 0).toNat).2)) :
    ∀ (n r : Nat) (f : Int → Int) (x2 x3 x4 : Option zV), r + n = (h 240 0).toNat → zW zX0 l mX10_meet ((SHL, g).1.length + zmc mX10_meet) (ztot (SHL, g) + zms mX10_meet) Q 14 [some (zr 240), some (zi (r : Int)), x2, x3, x4] [] (SHL, g) (hmt h f (meetB h r).1 (meetB h r).2) := by
  obtain ⟨m0, m1, m2, m3, m4, m5, m6, m7⟩ := hm.1
  intro n
  induction n with
  | zero =>
    intro r f x2 x3 x4 hr
    have e9 : r = (h 240 0).toNat := by omega
    subst e9
    refine z_iload_n dX10_meet_14 rfl ?_
    refine z_aload_n dX10_meet_15 rfl (by omega) ?_
    refine y_geti (k' := 0) fl_X10_7 rfl dX10_meet_16 sh_240 (by decide) (show hmt h f _ _ 240 0 = h 240 0 from rfl) ?_
    refine z_icmp_ge (tgt := 127) dX10_meet_19 (by decide) (fun _ => ?_) (fun q => False.elim (by omega))
    exact K f _ _ _ _
  | succ n ih =>
    intro r f x2 x3 x4 hr
    refine z_iload_n dX10_meet_14 rfl ?_
    refine z_aload_n dX10_meet_15 rfl (by omega) ?_
    refine y_geti (k' := 0) fl_X10_7 rfl dX10_meet_16 sh_240 (by decide) (show hmt h f _ _ 240 0 = h 240 0 from rfl) ?_
    refine z_icmp_ge (tgt := 127) dX10_meet_19 (by decide) (fun q => False.elim (by omega)) (fun _ => ?_)
    refine z_aload_n dX10_meet_22 rfl (by omega) ?_
    refine y_geti (k' := 3) fl_X10_66 rfl dX10_meet_23 sh_240 (by decide) (show hmt h f _ _ 240 3 = h 240 3 from rfl) ?_
    refine z_if_le (tgt := 127) dX10_meet_26 (by decide) (fun q => False.elim (by omega)) (fun _ => ?_)
    refine z_iconst dX10_meet_29 ⟨by decide, by decide⟩ ?_
    refine z_istore_n dX10_meet_30 (by decide) rfl lss_5_2 ?_
    refine z_iconst dX10_meet_31 ⟨by decide, by decide⟩ ?_
    refine z_istore_n dX10_meet_32 (by decide) rfl lss_5_3 ?_
    refine z_iconst dX10_meet_33 ⟨by decide, by decide⟩ ?_
    refine z_istore dX10_meet_34 (by decide) rfl lss_5_4 ?_
    refine lpX10_meet1 (r := r) hg hm (by omega) (fun f' k0 k1 => ?_) _ 0 f (Nat.zero_add _) (Int.le_refl 0) (Int.le_refl 0)
    refine z_iload_n dX10_meet_90 rfl ?_
    refine z_if_eq (tgt := 121) dX10_meet_91 (by decide) (fun c91 => ?_) (fun c91 => ?_)
    ·
      refine y_iinc dX10_meet_121 (by decide) rfl rfl (by omega) (by omega) lss_5_1 ?_
      refine z_goto (tgt := 14) dX10_meet_124 (by decide) ?_
      have q := ih (r + 1) f'
      first
        | (rw [hmt_1, hmt_2]; rw [meetB_t ⟨b2i_1.mp c91, by omega⟩] at q; exact q _ _ _ (by omega))
        | (rw [meetB_f (fun z => by have y := z.2; omega)] at q; exact q _ _ _ (by omega))
        | (rw [meetB_f (fun z => by rw [b2i_0.mp c91] at z; exact absurd z.1 (by decide))] at q; exact q _ _ _ (by omega))
    ·
      refine z_aload_n dX10_meet_94 rfl (by omega) ?_
      refine y_geti (k' := 31) fl_X10_208 rfl dX10_meet_95 sh_240 (by decide) (show hmt h f' (meetB h r).1 (meetB h r).2 240 31 = (meetB h r).1 from rfl) ?_
      refine z_bipush dX10_meet_98 ⟨by decide, by decide⟩ ?_
      refine z_icmp_eq (tgt := 111) dX10_meet_100 (by decide) (fun c100 => ?_) (fun c100 => ?_)
      ·
        refine z_aload_n dX10_meet_111 rfl (by omega) ?_
        refine z_iload_n dX10_meet_112 rfl ?_
        refine y_puti (k' := 31) fl_X10_208 rfl dX10_meet_113 sh_240 (by decide)  ?_
        refine z_aload_n dX10_meet_116 rfl (by omega) ?_
        refine z_iload_n dX10_meet_117 rfl ?_
        refine y_puti (k' := 32) fl_X10_211 rfl dX10_meet_118 sh_240 (by decide)  ?_
        refine y_iinc dX10_meet_121 (by decide) rfl rfl (by omega) (by omega) lss_5_1 ?_
        refine z_goto (tgt := 14) dX10_meet_124 (by decide) ?_
        have q := ih (r + 1) f'
        first
          | (rw [hmt_1, hmt_2]; rw [meetB_t ⟨b2i_1.mp c91, by omega⟩] at q; exact q _ _ _ (by omega))
          | (rw [meetB_f (fun z => by have y := z.2; omega)] at q; exact q _ _ _ (by omega))
          | (rw [meetB_f (fun z => by rw [b2i_0.mp c91] at z; exact absurd z.1 (by decide))] at q; exact q _ _ _ (by omega))
      ·
        refine z_iload_n dX10_meet_103 rfl ?_
        refine z_aload_n dX10_meet_104 rfl (by omega) ?_
        refine y_geti (k' := 32) fl_X10_211 rfl dX10_meet_105 sh_240 (by decide) (show hmt h f' (meetB h r).1 (meetB h r).2 240 32 = (meetB h r).2 from rfl) ?_
        refine z_icmp_ge (tgt := 121) dX10_meet_108 (by decide) (fun c108 => ?_) (fun c108 => ?_)
        ·
          refine y_iinc dX10_meet_121 (by decide) rfl rfl (by omega) (by omega) lss_5_1 ?_
          refine z_goto (tgt := 14) dX10_meet_124 (by decide) ?_
          have q := ih (r + 1) f'
          first
            | (rw [hmt_1, hmt_2]; rw [meetB_t ⟨b2i_1.mp c91, by omega⟩] at q; exact q _ _ _ (by omega))
            | (rw [meetB_f (fun z => by have y := z.2; omega)] at q; exact q _ _ _ (by omega))
            | (rw [meetB_f (fun z => by rw [b2i_0.mp c91] at z; exact absurd z.1 (by decide))] at q; exact q _ _ _ (by omega))
        ·
          refine z_aload_n dX10_meet_111 rfl (by omega) ?_
          refine z_iload_n dX10_meet_112 rfl ?_
          refine y_puti (k' := 31) fl_X10_208 rfl dX10_meet_113 sh_240 (by decide)  ?_
          refine z_aload_n dX10_meet_116 rfl (by omega) ?_
          refine z_iload_n dX10_meet_117 rfl ?_
          refine y_puti (k' := 32) fl_X10_211 rfl dX10_meet_118 sh_240 (by decide)  ?_
          refine y_iinc dX10_meet_121 (by decide) rfl rfl (by omega) (by omega) lss_5_1 ?_
          refine z_goto (tgt := 14) dX10_meet_124 (by decide) ?_
          have q := ih (r + 1) f'
          first
            | (rw [hmt_1, hmt_2]; rw [meetB_t ⟨b2i_1.mp c91, by omega⟩] at q; exact q _ _ _ (by omega))
            | (rw [meetB_f (fun z => by have y := z.2; omega)] at q; exact q _ _ _ (by omega))
            | (rw [meetB_f (fun z => by rw [b2i_0.mp c91] at z; exact absurd z.1 (by decide))] at q; exact q _ _ _ (by omega))
theorem qX10_meet {l : Launch} {g h : zH} {Q : zQt} (hg : zGd g) (hm : MB h) (hQ : ∀ f, Q none (SHL, g) (hmt h f (meetF h).1 (meetF h).2)) : zC l mX10_meet [zr 240] (SHL, g) h Q := by
  refine z_method kX10_meet.1 rfl (Nat.le_of_ble_eq_true rfl) (fun hok hh => ?_)
  obtain ⟨m0, m1, m2, m3, m4, m5, m6, m7⟩ := hm.1
  refine z_aload_n dX10_meet_0 rfl (by omega) ?_
  refine z_bipush dX10_meet_1 ⟨by decide, by decide⟩ ?_
  refine y_puti (k' := 31) fl_X10_208 rfl dX10_meet_3 sh_240 (by decide)  ?_
  refine z_aload_n dX10_meet_6 rfl (by omega) ?_
  refine z_bipush dX10_meet_7 ⟨by decide, by decide⟩ ?_
  refine y_puti (k' := 32) fl_X10_211 rfl dX10_meet_9 sh_240 (by decide)  ?_
  refine z_iconst dX10_meet_12 ⟨by decide, by decide⟩ ?_
  refine z_istore_n dX10_meet_13 (by decide) rfl lss_5_1 ?_
  rw [hmt_h]
  by_cases hD : 0 < h 240 3
  ·
    refine lpX10_meet2 hg hm hD (fun f x1 x2 x3 x4 => ?_) _ 0 (h 255) _ _ _ (Nat.zero_add _)
    refine z_ret (v := none) dX10_meet_127 trivial (Nat.add_zero _).symm (Nat.add_zero _).symm rfl ?_
    have hQ := hQ f
    rw [meetF, if_pos hD] at hQ
    exact hQ
  ·
    refine z_iload_n dX10_meet_14 rfl ?_
    refine z_aload_n dX10_meet_15 rfl (by omega) ?_
    refine y_geti (k' := 0) fl_X10_7 rfl dX10_meet_16 sh_240 (by decide) (show hmt h (h 255) _ _ 240 0 = h 240 0 from rfl) ?_
    refine z_icmp_ge (tgt := 127) dX10_meet_19 (by decide) (fun q => False.elim (by omega)) (fun _ => ?_)
    refine z_aload_n dX10_meet_22 rfl (by omega) ?_
    refine y_geti (k' := 3) fl_X10_66 rfl dX10_meet_23 sh_240 (by decide) (show hmt h (h 255) _ _ 240 3 = h 240 3 from rfl) ?_
    refine z_if_le (tgt := 127) dX10_meet_26 (by decide) (fun _ => ?_) (fun q => False.elim (by omega))
    refine z_ret (v := none) dX10_meet_127 trivial (Nat.add_zero _).symm (Nat.add_zero _).symm rfl ?_
    have hQ := hQ (h 255)
    rw [meetF, if_neg hD] at hQ
    exact hQ
