/-! Copies of rows, and the reference's deeds. -/
/-- n places of dst from dof on are those of src from sof on -/
def cpo (h : zH) (dst dof src sof : Int) (n : Nat) : zH := fun a b => if a = dst ∧ dof ≤ b ∧ b < dof + n then h src (b - dof + sof) else h a b
theorem cpo_0 (h : zH) (dst dof src sof : Int) : cpo h dst dof src sof 0 = h := by
  funext a b
  unfold cpo
  rw [if_neg (by omega)]
theorem cpo_ne {h : zH} {dst dof src sof a b : Int} {n : Nat} (hn : a ≠ dst) : cpo h dst dof src sof n a b = h a b := by
  unfold cpo
  rw [if_neg (fun q => hn q.1)]
theorem cpo_out {h : zH} {dst dof src sof a b : Int} {n : Nat} (hn : b < dof ∨ dof + n ≤ b) : cpo h dst dof src sof n a b = h a b := by
  unfold cpo
  rw [if_neg (by omega)]
theorem cpo_in {h : zH} {dst dof src sof b : Int} {n : Nat} (h0 : dof ≤ b) (h1 : b < dof + n) : cpo h dst dof src sof n dst b = h src (b - dof + sof) := by
  unfold cpo
  rw [if_pos ⟨rfl, h0, h1⟩]
theorem cpo_succ {h : zH} {dst dof src sof k v : Int} {n : Nat} (hk : k = dof + n) (hv : v = h src (sof + n)) : zup (cpo h dst dof src sof n) dst k v = cpo h dst dof src sof (n + 1) := by
  subst hk hv
  funext a b
  unfold zup cpo
  by_cases ha : a = dst
  · by_cases hb : b = dof + n
    · rw [if_pos ⟨ha, hb⟩, if_pos ⟨ha, by omega, by omega⟩, hb]
      congr 1
      omega
    · rw [if_neg (fun q => hb q.2)]
      by_cases hc : dof ≤ b ∧ b < dof + n
      · rw [if_pos ⟨ha, hc.1, hc.2⟩, if_pos ⟨ha, by omega, by omega⟩]
      · rw [if_neg (fun q => hc q.2), if_neg (fun q => hc ⟨q.2.1, by omega⟩)]
  · rw [if_neg (fun q => ha q.1), if_neg (fun q => ha q.1), if_neg (fun q => ha q.1)]
/-- the reference's past, with the present behind it -/
def KP1 (h : zH) : zH := if h 240 9 = 10 then zup (cpo h 245 0 245 29 261) 240 9 9 else h
def KP (h : zH) : zH := zup (cpo (KP1 h) 245 (29 * KP1 h 240 9) 244 0 29) 240 9 (KP1 h 240 9 + 1)
theorem KP1_ne {h : zH} {a b : Int} (h1 : a ≠ 245) (h2 : ¬ (a = 240 ∧ b = 9)) : KP1 h a b = h a b := by
  unfold KP1
  split
  · rw [zup_ne h2, cpo_ne h1]
  · rfl
theorem KP_ne {h : zH} {a b : Int} (h1 : a ≠ 245) (h2 : ¬ (a = 240 ∧ b = 9)) : KP h a b = h a b := by
  unfold KP
  rw [zup_ne h2, cpo_ne h1, KP1_ne h1 h2]
theorem KP1_acts {h : zH} (h0 : 0 ≤ h 240 9) (h1 : h 240 9 ≤ 10) : 0 ≤ KP1 h 240 9 ∧ KP1 h 240 9 ≤ 9 := by
  unfold KP1
  split
  · rw [zup_same]; omega
  · omega
theorem lpX10_keepPast1 {l : Launch} {g h : zH} {Q : zQt}  (hg : zGd g)  (K : zW zX0 l mX10_keepPast ((SHL, g).1.length + zmc mX10_keepPast) (ztot (SHL, g) + zms mX10_keepPast) Q 39 [some (zr 240), some (zi ((261 : Nat) : Int))] [] (SHL, g) (cpo h 245 0 245 29 (261))) : ∀ (n i : Nat), i + n = 261 → zW zX0 l mX10_keepPast ((SHL, g).1.length + zmc mX10_keepPast) (ztot (SHL, g) + zms mX10_keepPast) Q 11 [some (zr 240), some (zi (i : Int))] [] (SHL, g) (cpo h 245 0 245 29 i) := by
  intro n
  induction n with
  | zero =>
    intro i hi
    have e9 : i = 261 := by omega
    subst e9
    refine z_iload_n dX10_keepPast_11 rfl ?_
    refine z_sipush dX10_keepPast_12 ⟨by decide, by decide⟩ ?_
    refine z_icmp_ge (tgt := 39) dX10_keepPast_15 (by decide) (fun _ => ?_) (fun q => False.elim (by omega))
    exact K
  | succ n ih =>
    intro i hi
    refine z_iload_n dX10_keepPast_11 rfl ?_
    refine z_sipush dX10_keepPast_12 ⟨by decide, by decide⟩ ?_
    refine z_icmp_ge (tgt := 39) dX10_keepPast_15 (by decide) (fun q => False.elim (by omega)) (fun _ => ?_)
    refine z_aload_n dX10_keepPast_18 rfl (by omega) ?_
    refine y_geta (k' := 8) fl_X10_26 rfl dX10_keepPast_19 sh_240 (by decide) (gf_240_8 hg) ?_
    refine z_iload_n dX10_keepPast_22 rfl ?_
    refine z_aload_n dX10_keepPast_23 rfl (by omega) ?_
    refine y_geta (k' := 8) fl_X10_26 rfl dX10_keepPast_24 sh_240 (by decide) (gf_240_8 hg) ?_
    refine z_iload_n dX10_keepPast_27 rfl ?_
    refine z_bipush dX10_keepPast_28 ⟨by decide, by decide⟩ ?_
    refine y_iadd dX10_keepPast_30 (by omega) (by omega) ?_
    refine z_iaload dX10_keepPast_31 sh_245 (by omega) (by omega) (cpo_out (by omega)) ?_
    refine z_iastore dX10_keepPast_32 sh_245 (by omega) (by omega) ?_
    refine y_iinc dX10_keepPast_33 (by decide) rfl rfl (by omega) (by omega) lss_2_1 ?_
    refine z_goto (tgt := 11) dX10_keepPast_36 (by decide) ?_
    rw [cpo_succ (by omega) (by congr 1; omega)]
    exact ih (i + 1) (by omega)
theorem lpX10_keepPast2 {l : Launch} {g h : zH} {Q : zQt}  (hg : zGd g) (g0 : 0 ≤ h 240 9) (g1 : h 240 9 ≤ 9) (K : zW zX0 l mX10_keepPast ((SHL, g).1.length + zmc mX10_keepPast) (ztot (SHL, g) + zms mX10_keepPast) Q 83 [some (zr 240), some (zi ((29 : Nat) : Int))] [] (SHL, g) (cpo h 245 (29 * h 240 9) 244 0 (29))) : ∀ (n i : Nat), i + n = 29 → zW zX0 l mX10_keepPast ((SHL, g).1.length + zmc mX10_keepPast) (ztot (SHL, g) + zms mX10_keepPast) Q 51 [some (zr 240), some (zi (i : Int))] [] (SHL, g) (cpo h 245 (29 * h 240 9) 244 0 i) := by
  intro n
  induction n with
  | zero =>
    intro i hi
    have e9 : i = 29 := by omega
    subst e9
    refine z_iload_n dX10_keepPast_51 rfl ?_
    refine z_bipush dX10_keepPast_52 ⟨by decide, by decide⟩ ?_
    refine z_icmp_ge (tgt := 83) dX10_keepPast_54 (by decide) (fun _ => ?_) (fun q => False.elim (by omega))
    exact K
  | succ n ih =>
    intro i hi
    refine z_iload_n dX10_keepPast_51 rfl ?_
    refine z_bipush dX10_keepPast_52 ⟨by decide, by decide⟩ ?_
    refine z_icmp_ge (tgt := 83) dX10_keepPast_54 (by decide) (fun q => False.elim (by omega)) (fun _ => ?_)
    refine z_aload_n dX10_keepPast_57 rfl (by omega) ?_
    refine y_geta (k' := 8) fl_X10_26 rfl dX10_keepPast_58 sh_240 (by decide) (gf_240_8 hg) ?_
    refine z_bipush dX10_keepPast_61 ⟨by decide, by decide⟩ ?_
    refine z_aload_n dX10_keepPast_63 rfl (by omega) ?_
    refine y_geti (k' := 9) fl_X10_135 rfl dX10_keepPast_64 sh_240 (by decide) (cpo_ne (by decide)) ?_
    refine y_imul dX10_keepPast_67 (by omega) (by omega) ?_
    refine z_iload_n dX10_keepPast_68 rfl ?_
    refine y_iadd dX10_keepPast_69 (by omega) (by omega) ?_
    refine z_aload_n dX10_keepPast_70 rfl (by omega) ?_
    refine y_geta (k' := 7) fl_X10_23 rfl dX10_keepPast_71 sh_240 (by decide) (gf_240_7 hg) ?_
    refine z_iload_n dX10_keepPast_74 rfl ?_
    refine z_iaload dX10_keepPast_75 sh_244 (by omega) (by omega) (cpo_ne (by decide)) ?_
    refine z_iastore dX10_keepPast_76 sh_245 (by omega) (by omega) ?_
    refine y_iinc dX10_keepPast_77 (by decide) rfl rfl (by omega) (by omega) lss_2_1 ?_
    refine z_goto (tgt := 51) dX10_keepPast_80 (by decide) ?_
    rw [cpo_succ (by omega) (by congr 1; omega)]
    exact ih (i + 1) (by omega)
theorem qX10_keepPast {l : Launch} {g h : zH} {Q : zQt} (hg : zGd g) (hm : MB h) (hQ : Q none (SHL, g) (KP h)) : zC l mX10_keepPast [zr 240] (SHL, g) h Q := by
  refine z_method kX10_keepPast.1 rfl (Nat.le_of_ble_eq_true rfl) (fun hok hh => ?_)
  obtain ⟨m0, m1, m2, m3, m4, m5, m6, m7⟩ := hm.1
  have ha := KP1_acts m4.1 m4.2
  have tail : zW zX0 l mX10_keepPast ((SHL, g).1.length + zmc mX10_keepPast) (ztot (SHL, g) + zms mX10_keepPast) Q 51 [some (zr 240), some (zi 0)] [] (SHL, g) (KP1 h) := by
    have K := lpX10_keepPast2 (l := l) (h := KP1 h) (Q := Q) hg ha.1 ha.2 (by
      refine z_aload_n dX10_keepPast_83 rfl (by omega) ?_
      refine z_dup dX10_keepPast_84 rfl ?_
      refine y_geti (k' := 9) fl_X10_135 rfl dX10_keepPast_85 sh_240 (by decide) (cpo_ne (by decide)) ?_
      refine z_iconst dX10_keepPast_88 ⟨by decide, by decide⟩ ?_
      refine y_iadd dX10_keepPast_89 (by omega) (by omega) ?_
      refine y_puti (k' := 9) fl_X10_135 rfl dX10_keepPast_90 sh_240 (by decide)  ?_
      refine z_ret (v := none) dX10_keepPast_93 trivial (Nat.add_zero _).symm (Nat.add_zero _).symm rfl ?_
      exact hQ) 29 0 rfl
    rw [cpo_0] at K
    exact K
  refine z_aload_n dX10_keepPast_0 rfl (by omega) ?_
  refine y_geti (k' := 9) fl_X10_135 rfl dX10_keepPast_1 sh_240 (by decide) rfl ?_
  refine z_bipush dX10_keepPast_4 ⟨by decide, by decide⟩ ?_
  refine z_icmp_ne (tgt := 49) dX10_keepPast_6 (by decide) (fun c6 => ?_) (fun c6 => ?_)
  ·
    have e9 : KP1 h = h := by unfold KP1; rw [if_neg c6]
    rw [e9] at tail
    refine z_iconst dX10_keepPast_49 ⟨by decide, by decide⟩ ?_
    refine z_istore_n dX10_keepPast_50 (by decide) rfl lss_2_1 ?_
    exact tail
  ·
    refine z_iconst dX10_keepPast_9 ⟨by decide, by decide⟩ ?_
    refine z_istore_n dX10_keepPast_10 (by decide) rfl lss_2_1 ?_
    have K := lpX10_keepPast1 (l := l) (h := h) (Q := Q) hg (by
      refine z_aload_n dX10_keepPast_39 rfl (by omega) ?_
      refine z_dup dX10_keepPast_40 rfl ?_
      refine y_geti (k' := 9) fl_X10_135 rfl dX10_keepPast_41 sh_240 (by decide) (cpo_ne (by decide)) ?_
      refine z_iconst dX10_keepPast_44 ⟨by decide, by decide⟩ ?_
      refine y_isub dX10_keepPast_45 (by omega) (by omega) ?_
      refine y_puti (k' := 9) fl_X10_135 rfl dX10_keepPast_46 sh_240 (by decide)  ?_
      refine z_iconst dX10_keepPast_49 ⟨by decide, by decide⟩ ?_
      refine z_istore_n dX10_keepPast_50 (by decide) rfl lss_2_1 ?_
      have e9 : KP1 h = zup (cpo h 245 0 245 29 261) 240 9 (h 240 9 - 1) := by unfold KP1; rw [if_pos (by omega)]; congr 1; omega
      rw [e9] at tail
      exact tail) 261 0 rfl
    rw [cpo_0] at K
    exact K
def goesR (h : zH) (d p : Int) : Int × zH :=
  if 0 ≤ d ∧ d < h 240 3 then (if 0 ≤ p ∧ p < h 240 1 then (if othM h p (h 244 (4 * d)) = -9 then (-2, h) else if mayM h d p then
    (othM h p (h 244 (4 * d)), zup (zup (KP h) 244 (4 * d + 2) (min 9999 (h 244 (4 * d + 2) + h 244 (4 * d + 1) * h 241 (3 * p + 2)))) 244 (4 * d) (othM h p (h 244 (4 * d))))
    else (-2, h)) else (-1, h)) else (-1, h)
theorem qX10_goes {l : Launch} {g h : zH} {Q : zQt} (hg : zGd g) (hm : MB h) {d p : Int} (hQ : Q (some (zi (goesR h d p).1)) (SHL, g) (goesR h d p).2) : zC l mX10_goes [zr 240, zi d, zi p] (SHL, g) h Q := by
  refine z_method kX10_goes.1 rfl (Nat.le_of_ble_eq_true rfl) (fun hok hh => ?_)
  obtain ⟨m0, m1, m2, m3, m4, m5, m6, m7⟩ := hm.1
  refine z_aload_n dX10_goes_0 rfl (by omega) ?_
  refine z_iload_n dX10_goes_1 rfl ?_
  refine z_callV (T := mX10_isDirector) (As := [_]) kX10_isDirector ml_X10_179 ⟨by decide, by decide⟩ dX10_goes_2 rfl rfl (Nat.le_of_ble_eq_true rfl) sh_240 ⟨by decide, rfl⟩ (Nat.le_refl _) (Nat.le_refl _) (qX10_isDirector hg hm (fun b2 => ?_) (fun b2 => ?_))
  ·
    refine z_if_eq (tgt := 16) dX10_goes_5 (by decide) (fun q => False.elim (by omega)) (fun _ => ?_)
    refine z_aload_n dX10_goes_8 rfl (by omega) ?_
    refine z_iload_n dX10_goes_9 rfl ?_
    refine z_callV (T := mX10_isPath) (As := [_]) kX10_isPath ml_X10_174 ⟨by decide, by decide⟩ dX10_goes_10 rfl rfl (Nat.le_of_ble_eq_true rfl) sh_240 ⟨by decide, rfl⟩ (Nat.le_refl _) (Nat.le_refl _) (qX10_isPath hg hm (fun b10 => ?_) (fun b10 => ?_))
    ·
      refine z_if_ne (tgt := 18) dX10_goes_13 (by decide) (fun _ => ?_) (fun q => False.elim (by omega))
      refine z_aload_n dX10_goes_18 rfl (by omega) ?_
      refine z_iload_n dX10_goes_19 rfl ?_
      refine z_aload_n dX10_goes_20 rfl (by omega) ?_
      refine z_iload_n dX10_goes_21 rfl ?_
      refine z_iconst dX10_goes_22 ⟨by decide, by decide⟩ ?_
      refine z_callV (T := mX10_of) (As := [_, _]) kX10_of ml_X10_76 ⟨by decide, by decide⟩ dX10_goes_23 rfl rfl (Nat.le_of_ble_eq_true rfl) sh_240 ⟨by decide, rfl⟩ (Nat.le_refl _) (Nat.le_refl _) (qX10_of hg (by omega) (by omega) (by omega) (by omega) (by rw [Int.add_zero]) ?_)
      refine z_callV (T := mX10_other) (As := [_, _]) kX10_other ml_X10_191 ⟨by decide, by decide⟩ dX10_goes_26 rfl rfl (Nat.le_of_ble_eq_true rfl) sh_240 ⟨by decide, rfl⟩ (Nat.le_refl _) (Nat.le_refl _) (qX10_other hg (by omega) (by omega) ?_)
      refine z_istore_n dX10_goes_29 (by decide) rfl lss_5_3 ?_
      refine z_iload_n dX10_goes_30 rfl ?_
      refine z_bipush dX10_goes_31 ⟨by decide, by decide⟩ ?_
      refine z_icmp_eq (tgt := 45) dX10_goes_33 (by decide) (fun c33 => ?_) (fun c33 => ?_)
      ·
        refine z_bipush dX10_goes_45 ⟨by decide, by decide⟩ ?_
        refine z_ret (v := some (zi _)) dX10_goes_47 trivial (Nat.add_zero _).symm (Nat.add_zero _).symm rfl ?_
        first
          | (rw [goesR, if_pos b2, if_pos b10, if_pos c33] at hQ; exact hQ)
          | (rw [goesR, if_pos b2, if_pos b10, if_neg c33, if_neg b39] at hQ; exact hQ)
      ·
        refine z_aload_n dX10_goes_36 rfl (by omega) ?_
        refine z_iload_n dX10_goes_37 rfl ?_
        refine z_iload_n dX10_goes_38 rfl ?_
        refine z_callV (T := mX10_may) (As := [_, _]) kX10_may ml_X10_164 ⟨by decide, by decide⟩ dX10_goes_39 rfl rfl (Nat.le_of_ble_eq_true rfl) sh_240 ⟨by decide, rfl⟩ (Nat.le_refl _) (Nat.le_refl _) (qX10_may hg hm (by omega) (by omega) (by omega) (by omega) (fun b39 => ?_) (fun b39 => ?_))
        ·
          refine z_if_ne (tgt := 48) dX10_goes_42 (by decide) (fun _ => ?_) (fun q => False.elim (by omega))
          refine z_aload_n dX10_goes_48 rfl (by omega) ?_
          refine z_callV (T := mX10_keepPast) (As := []) kX10_keepPast ml_X10_194 ⟨by decide, by decide⟩ dX10_goes_49 rfl rfl (Nat.le_of_ble_eq_true rfl) sh_240 ⟨by decide, rfl⟩ (Nat.le_refl _) (Nat.le_refl _) (qX10_keepPast hg hm ?_)
          have f1 := nb0 hm.2.2.2.2.1 b2.1 b2.2
          have f2 := (hm.2.1 p b10.1 b10.2).2.2
          have f3 := mulb f1.2.1.1 f1.2.1.2 f2.1 f2.2
          refine z_aload_n dX10_goes_52 rfl (by omega) ?_
          refine z_iload_n dX10_goes_53 rfl ?_
          refine z_iconst dX10_goes_54 ⟨by decide, by decide⟩ ?_
          refine z_callV (T := mX10_of) (As := [_, _]) kX10_of ml_X10_76 ⟨by decide, by decide⟩ dX10_goes_55 rfl rfl (Nat.le_of_ble_eq_true rfl) sh_240 ⟨by decide, rfl⟩ (Nat.le_refl _) (Nat.le_refl _) (qX10_of hg (by omega) (by omega) (by omega) (by omega) (KP_ne (by decide) (by omega)) ?_)
          refine z_aload_n dX10_goes_58 rfl (by omega) ?_
          refine z_iload_n dX10_goes_59 rfl ?_
          refine z_iconst dX10_goes_60 ⟨by decide, by decide⟩ ?_
          refine z_callV (T := mX10_of) (As := [_, _]) kX10_of ml_X10_76 ⟨by decide, by decide⟩ dX10_goes_61 rfl rfl (Nat.le_of_ble_eq_true rfl) sh_240 ⟨by decide, rfl⟩ (Nat.le_refl _) (Nat.le_refl _) (qX10_of hg (by omega) (by omega) (by omega) (by omega) (KP_ne (by decide) (by omega)) ?_)
          refine z_aload_n dX10_goes_64 rfl (by omega) ?_
          refine y_geta (k' := 2) fl_X10_13 rfl dX10_goes_65 sh_240 (by decide) (gf_240_2 hg) ?_
          refine z_iconst dX10_goes_68 ⟨by decide, by decide⟩ ?_
          refine z_iload_n dX10_goes_69 rfl ?_
          refine y_imul dX10_goes_70 (by omega) (by omega) ?_
          refine z_iconst dX10_goes_71 ⟨by decide, by decide⟩ ?_
          refine y_iadd dX10_goes_72 (by omega) (by omega) ?_
          refine z_iaload dX10_goes_73 sh_241 (by omega) (by omega) (KP_ne (by decide) (by omega)) ?_
          refine y_imul dX10_goes_74 (by omega) (by omega) ?_
          refine y_iadd dX10_goes_75 (by omega) (by omega) ?_
          refine z_istore dX10_goes_76 (by decide) rfl lss_5_4 ?_
          refine z_aload_n dX10_goes_78 rfl (by omega) ?_
          refine y_geta (k' := 7) fl_X10_23 rfl dX10_goes_79 sh_240 (by decide) (gf_240_7 hg) ?_
          refine z_iconst dX10_goes_82 ⟨by decide, by decide⟩ ?_
          refine z_iload_n dX10_goes_83 rfl ?_
          refine y_imul dX10_goes_84 (by omega) (by omega) ?_
          refine z_iconst dX10_goes_85 ⟨by decide, by decide⟩ ?_
          refine y_iadd dX10_goes_86 (by omega) (by omega) ?_
          refine z_iload dX10_goes_87 rfl ?_
          refine z_sipush dX10_goes_89 ⟨by decide, by decide⟩ ?_
          refine z_icmp_le (tgt := 101) dX10_goes_92 (by decide) (fun c92 => ?_) (fun c92 => ?_)
          ·
            refine z_iload dX10_goes_101 rfl ?_
            refine z_iastore dX10_goes_103 sh_244 (by omega) (by omega) ?_
            refine z_aload_n dX10_goes_104 rfl (by omega) ?_
            refine y_geta (k' := 7) fl_X10_23 rfl dX10_goes_105 sh_240 (by decide) (gf_240_7 hg) ?_
            refine z_iconst dX10_goes_108 ⟨by decide, by decide⟩ ?_
            refine z_iload_n dX10_goes_109 rfl ?_
            refine y_imul dX10_goes_110 (by omega) (by omega) ?_
            refine z_iconst dX10_goes_111 ⟨by decide, by decide⟩ ?_
            refine y_iadd dX10_goes_112 (by omega) (by omega) ?_
            refine z_iload_n dX10_goes_113 rfl ?_
            refine z_iastore dX10_goes_114 sh_244 (by omega) (by omega) ?_
            refine z_iload_n dX10_goes_115 rfl ?_
            refine z_ret (v := some (zi _)) dX10_goes_116 trivial (Nat.add_zero _).symm (Nat.add_zero _).symm rfl ?_
            rw [goesR, if_pos b2, if_pos b10, if_neg c33, if_pos b39] at hQ
            simp only [Int.add_zero]
            first
              | (rw [show min 9999 (h 244 (4 * d + 2) + h 244 (4 * d + 1) * h 241 (3 * p + 2)) = 9999 by omega] at hQ; exact hQ)
              | (rw [show min 9999 (h 244 (4 * d + 2) + h 244 (4 * d + 1) * h 241 (3 * p + 2)) = h 244 (4 * d + 2) + h 244 (4 * d + 1) * h 241 (3 * p + 2) by omega] at hQ; exact hQ)
          ·
            refine z_sipush dX10_goes_95 ⟨by decide, by decide⟩ ?_
            refine z_goto (tgt := 103) dX10_goes_98 (by decide) ?_
            refine z_iastore dX10_goes_103 sh_244 (by omega) (by omega) ?_
            refine z_aload_n dX10_goes_104 rfl (by omega) ?_
            refine y_geta (k' := 7) fl_X10_23 rfl dX10_goes_105 sh_240 (by decide) (gf_240_7 hg) ?_
            refine z_iconst dX10_goes_108 ⟨by decide, by decide⟩ ?_
            refine z_iload_n dX10_goes_109 rfl ?_
            refine y_imul dX10_goes_110 (by omega) (by omega) ?_
            refine z_iconst dX10_goes_111 ⟨by decide, by decide⟩ ?_
            refine y_iadd dX10_goes_112 (by omega) (by omega) ?_
            refine z_iload_n dX10_goes_113 rfl ?_
            refine z_iastore dX10_goes_114 sh_244 (by omega) (by omega) ?_
            refine z_iload_n dX10_goes_115 rfl ?_
            refine z_ret (v := some (zi _)) dX10_goes_116 trivial (Nat.add_zero _).symm (Nat.add_zero _).symm rfl ?_
            rw [goesR, if_pos b2, if_pos b10, if_neg c33, if_pos b39] at hQ
            simp only [Int.add_zero]
            first
              | (rw [show min 9999 (h 244 (4 * d + 2) + h 244 (4 * d + 1) * h 241 (3 * p + 2)) = 9999 by omega] at hQ; exact hQ)
              | (rw [show min 9999 (h 244 (4 * d + 2) + h 244 (4 * d + 1) * h 241 (3 * p + 2)) = h 244 (4 * d + 2) + h 244 (4 * d + 1) * h 241 (3 * p + 2) by omega] at hQ; exact hQ)
        ·
          refine z_if_ne (tgt := 48) dX10_goes_42 (by decide) (fun q => False.elim (by omega)) (fun _ => ?_)
          refine z_bipush dX10_goes_45 ⟨by decide, by decide⟩ ?_
          refine z_ret (v := some (zi _)) dX10_goes_47 trivial (Nat.add_zero _).symm (Nat.add_zero _).symm rfl ?_
          first
            | (rw [goesR, if_pos b2, if_pos b10, if_pos c33] at hQ; exact hQ)
            | (rw [goesR, if_pos b2, if_pos b10, if_neg c33, if_neg b39] at hQ; exact hQ)
    ·
      refine z_if_ne (tgt := 18) dX10_goes_13 (by decide) (fun q => False.elim (by omega)) (fun _ => ?_)
      refine z_iconst dX10_goes_16 ⟨by decide, by decide⟩ ?_
      refine z_ret (v := some (zi _)) dX10_goes_17 trivial (Nat.add_zero _).symm (Nat.add_zero _).symm rfl ?_
      first
        | (rw [goesR, if_neg b2] at hQ; exact hQ)
        | (rw [goesR, if_pos b2, if_neg b10] at hQ; exact hQ)
  ·
    refine z_if_eq (tgt := 16) dX10_goes_5 (by decide) (fun _ => ?_) (fun q => False.elim (by omega))
    refine z_iconst dX10_goes_16 ⟨by decide, by decide⟩ ?_
    refine z_ret (v := some (zi _)) dX10_goes_17 trivial (Nat.add_zero _).symm (Nat.add_zero _).symm rfl ?_
    first
      | (rw [goesR, if_neg b2] at hQ; exact hQ)
      | (rw [goesR, if_pos b2, if_neg b10] at hQ; exact hQ)
def restsR (h : zH) (d : Int) : Int × zH :=
  if 0 ≤ d ∧ d < h 240 3 then (if h 244 (4 * d + 2) = 0 then (-2, h) else (h 244 (4 * d + 2), zup (KP h) 244 (4 * d + 2) 0)) else (-1, h)
theorem qX10_rests {l : Launch} {g h : zH} {Q : zQt} (hg : zGd g) (hm : MB h) {d : Int} (hQ : Q (some (zi (restsR h d).1)) (SHL, g) (restsR h d).2) : zC l mX10_rests [zr 240, zi d] (SHL, g) h Q := by
  refine z_method kX10_rests.1 rfl (Nat.le_of_ble_eq_true rfl) (fun hok hh => ?_)
  obtain ⟨m0, m1, m2, m3, m4, m5, m6, m7⟩ := hm.1
  refine z_aload_n dX10_rests_0 rfl (by omega) ?_
  refine z_iload_n dX10_rests_1 rfl ?_
  refine z_callV (T := mX10_isDirector) (As := [_]) kX10_isDirector ml_X10_179 ⟨by decide, by decide⟩ dX10_rests_2 rfl rfl (Nat.le_of_ble_eq_true rfl) sh_240 ⟨by decide, rfl⟩ (Nat.le_refl _) (Nat.le_refl _) (qX10_isDirector hg hm (fun b2 => ?_) (fun b2 => ?_))
  ·
    refine z_if_ne (tgt := 10) dX10_rests_5 (by decide) (fun _ => ?_) (fun q => False.elim (by omega))
    refine z_aload_n dX10_rests_10 rfl (by omega) ?_
    refine z_iload_n dX10_rests_11 rfl ?_
    refine z_iconst dX10_rests_12 ⟨by decide, by decide⟩ ?_
    refine z_callV (T := mX10_of) (As := [_, _]) kX10_of ml_X10_76 ⟨by decide, by decide⟩ dX10_rests_13 rfl rfl (Nat.le_of_ble_eq_true rfl) sh_240 ⟨by decide, rfl⟩ (Nat.le_refl _) (Nat.le_refl _) (qX10_of hg (by omega) (by omega) (by omega) (by omega) rfl ?_)
    refine z_istore_n dX10_rests_16 (by decide) rfl lss_3_2 ?_
    refine z_iload_n dX10_rests_17 rfl ?_
    refine z_if_ne (tgt := 24) dX10_rests_18 (by decide) (fun c18 => ?_) (fun c18 => ?_)
    ·
      refine z_aload_n dX10_rests_24 rfl (by omega) ?_
      refine z_callV (T := mX10_keepPast) (As := []) kX10_keepPast ml_X10_194 ⟨by decide, by decide⟩ dX10_rests_25 rfl rfl (Nat.le_of_ble_eq_true rfl) sh_240 ⟨by decide, rfl⟩ (Nat.le_refl _) (Nat.le_refl _) (qX10_keepPast hg hm ?_)
      refine z_aload_n dX10_rests_28 rfl (by omega) ?_
      refine y_geta (k' := 7) fl_X10_23 rfl dX10_rests_29 sh_240 (by decide) (gf_240_7 hg) ?_
      refine z_iconst dX10_rests_32 ⟨by decide, by decide⟩ ?_
      refine z_iload_n dX10_rests_33 rfl ?_
      refine y_imul dX10_rests_34 (by omega) (by omega) ?_
      refine z_iconst dX10_rests_35 ⟨by decide, by decide⟩ ?_
      refine y_iadd dX10_rests_36 (by omega) (by omega) ?_
      refine z_iconst dX10_rests_37 ⟨by decide, by decide⟩ ?_
      refine z_iastore dX10_rests_38 sh_244 (by omega) (by omega) ?_
      refine z_iload_n dX10_rests_39 rfl ?_
      refine z_ret (v := some (zi _)) dX10_rests_40 trivial (Nat.add_zero _).symm (Nat.add_zero _).symm rfl ?_
      first
        | (rw [restsR, if_pos b2, if_neg (by omega)] at hQ; exact hQ)
    ·
      refine z_bipush dX10_rests_21 ⟨by decide, by decide⟩ ?_
      refine z_ret (v := some (zi _)) dX10_rests_23 trivial (Nat.add_zero _).symm (Nat.add_zero _).symm rfl ?_
      first
        | (rw [restsR, if_pos b2, if_pos (by omega)] at hQ; exact hQ)
  ·
    refine z_if_ne (tgt := 10) dX10_rests_5 (by decide) (fun q => False.elim (by omega)) (fun _ => ?_)
    refine z_iconst dX10_rests_8 ⟨by decide, by decide⟩ ?_
    refine z_ret (v := some (zi _)) dX10_rests_9 trivial (Nat.add_zero _).symm (Nat.add_zero _).symm rfl ?_
    first
      | (rw [restsR, if_neg b2] at hQ; exact hQ)
def offR (h : zH) (d c n : Int) : Int × zH :=
  if 0 ≤ d ∧ d < h 240 3 then (if 0 ≤ c ∧ c ≤ h 240 5 - 1 then (if 1 ≤ n ∧ n ≤ 9 then
    (if h 244 (24 + c) + n < h 243 c then (h 244 (24 + c) + n, zup (KP h) 244 (24 + c) (h 244 (24 + c) + n))
     else (0, zup (zup (zup (zup (KP h) 244 (24 + c) (h 244 (24 + c) + n)) 244 (24 + c) 0) 244 (4 * d + 1) (h 244 (4 * d + 1) + (if h 244 (4 * d + 1) < 99 then 1 else 0))) 244 (4 * d + 3) (h 244 (4 * d + 3) + (if h 244 (4 * d + 3) < 999 then 1 else 0))))
    else (-1, h)) else (-1, h)) else (-1, h)
theorem qX10_offends {l : Launch} {g h : zH} {Q : zQt} (hg : zGd g) (hm : MB h) {d c n : Int} (hQ : Q (some (zi (offR h d c n).1)) (SHL, g) (offR h d c n).2) : zC l mX10_offends [zr 240, zi d, zi c, zi n] (SHL, g) h Q := by
  refine z_method kX10_offends.1 rfl (Nat.le_of_ble_eq_true rfl) (fun hok hh => ?_)
  obtain ⟨m0, m1, m2, m3, m4, m5, m6, m7⟩ := hm.1
  refine z_aload_n dX10_offends_0 rfl (by omega) ?_
  refine z_iload_n dX10_offends_1 rfl ?_
  refine z_callV (T := mX10_isDirector) (As := [_]) kX10_isDirector ml_X10_179 ⟨by decide, by decide⟩ dX10_offends_2 rfl rfl (Nat.le_of_ble_eq_true rfl) sh_240 ⟨by decide, rfl⟩ (Nat.le_refl _) (Nat.le_refl _) (qX10_isDirector hg hm (fun b2 => ?_) (fun b2 => ?_))
  ·
    refine z_if_eq (tgt := 36) dX10_offends_5 (by decide) (fun q => False.elim (by omega)) (fun _ => ?_)
    refine z_iload_n dX10_offends_8 rfl ?_
    refine z_i2l dX10_offends_9 ?_
    refine z_lconst0 dX10_offends_10 ?_
    refine z_aload_n dX10_offends_11 rfl (by omega) ?_
    refine y_geti (k' := 5) fl_X10_132 rfl dX10_offends_12 sh_240 (by decide) rfl ?_
    refine z_iconst dX10_offends_15 ⟨by decide, by decide⟩ ?_
    refine y_isub dX10_offends_16 (by omega) (by omega) ?_
    refine z_i2l dX10_offends_17 ?_
    refine z_callS (T := mX10_in) (As := [_, _, _]) kX10_in ml_X10_69 ⟨by decide, by decide⟩ dX10_offends_18 rfl rfl (Nat.le_of_ble_eq_true rfl) (Nat.le_refl _) (Nat.le_refl _) (qX10_in (fun b18 => ?_) (fun b18 => ?_))
    ·
      refine z_if_eq (tgt := 36) dX10_offends_21 (by decide) (fun q => False.elim (by omega)) (fun _ => ?_)
      refine z_iload_n dX10_offends_24 rfl ?_
      refine z_i2l dX10_offends_25 ?_
      refine z_lconst1 dX10_offends_26 ?_
      refine z_ldc2 dX10_offends_27 kc_X10_197 ⟨by decide, by decide⟩ ?_
      refine z_callS (T := mX10_in) (As := [_, _, _]) kX10_in ml_X10_69 ⟨by decide, by decide⟩ dX10_offends_30 rfl rfl (Nat.le_of_ble_eq_true rfl) (Nat.le_refl _) (Nat.le_refl _) (qX10_in (fun b30 => ?_) (fun b30 => ?_))
      ·
        refine z_if_ne (tgt := 38) dX10_offends_33 (by decide) (fun _ => ?_) (fun q => False.elim (by omega))
        refine z_aload_n dX10_offends_38 rfl (by omega) ?_
        refine z_callV (T := mX10_keepPast) (As := []) kX10_keepPast ml_X10_194 ⟨by decide, by decide⟩ dX10_offends_39 rfl rfl (Nat.le_of_ble_eq_true rfl) sh_240 ⟨by decide, rfl⟩ (Nat.le_refl _) (Nat.le_refl _) (qX10_keepPast hg hm ?_)
        have f1 := nb0 hm.2.2.2.2.1 b2.1 b2.2
        have f2 := hm.2.2.2.2.1.2.1 c b18.1 (by omega)
        rw [Int.zero_add] at f2
        have f3 := hm.2.2.2.1 c b18.1 (by omega)
        refine z_aload_n dX10_offends_42 rfl (by omega) ?_
        refine y_geta (k' := 7) fl_X10_23 rfl dX10_offends_43 sh_240 (by decide) (gf_240_7 hg) ?_
        refine z_bipush dX10_offends_46 ⟨by decide, by decide⟩ ?_
        refine z_iload_n dX10_offends_48 rfl ?_
        refine y_iadd dX10_offends_49 (by omega) (by omega) ?_
        refine z_dup2 dX10_offends_50 rfl rfl ?_
        refine z_iaload dX10_offends_51 sh_244 (by omega) (by omega) (KP_ne (by decide) (by omega)) ?_
        refine z_iload_n dX10_offends_52 rfl ?_
        refine y_iadd dX10_offends_53 (by omega) (by omega) ?_
        refine z_iastore dX10_offends_54 sh_244 (by omega) (by omega) ?_
        refine z_aload_n dX10_offends_55 rfl (by omega) ?_
        refine y_geta (k' := 7) fl_X10_23 rfl dX10_offends_56 sh_240 (by decide) (gf_240_7 hg) ?_
        refine z_bipush dX10_offends_59 ⟨by decide, by decide⟩ ?_
        refine z_iload_n dX10_offends_61 rfl ?_
        refine y_iadd dX10_offends_62 (by omega) (by omega) ?_
        refine z_iaload dX10_offends_63 sh_244 (by omega) (by omega) (zup_same _ _ _ _) ?_
        refine z_aload_n dX10_offends_64 rfl (by omega) ?_
        refine y_geta (k' := 6) fl_X10_20 rfl dX10_offends_65 sh_240 (by decide) (gf_240_6 hg) ?_
        refine z_iload_n dX10_offends_68 rfl ?_
        refine z_iaload dX10_offends_69 sh_243 (by omega) (by omega) ((zup_ne (by omega)).trans (KP_ne (by decide) (by omega))) ?_
        refine z_icmp_lt (tgt := 142) dX10_offends_70 (by decide) (fun c70 => ?_) (fun c70 => ?_)
        ·
          refine z_aload_n dX10_offends_142 rfl (by omega) ?_
          refine y_geta (k' := 7) fl_X10_23 rfl dX10_offends_143 sh_240 (by decide) (gf_240_7 hg) ?_
          refine z_bipush dX10_offends_146 ⟨by decide, by decide⟩ ?_
          refine z_iload_n dX10_offends_148 rfl ?_
          refine y_iadd dX10_offends_149 (by omega) (by omega) ?_
          refine z_iaload dX10_offends_150 sh_244 (by omega) (by omega) rfl ?_
          refine z_ret (v := some (zi _)) dX10_offends_151 trivial (Nat.add_zero _).symm (Nat.add_zero _).symm rfl ?_
          first
            | (rw [offR, if_pos b2, if_pos b18, if_pos b30, if_pos c70] at hQ; rw [zup_same]; exact hQ)
            | (rw [offR, if_pos b2, if_pos b18, if_pos b30, if_neg c70] at hQ; rw [zup_ne (by omega), zup_ne (by omega), zup_same]; first | (rw [if_neg (by omega), if_neg (by omega)] at hQ; exact hQ) | (rw [if_neg (by omega), if_pos (by omega)] at hQ; exact hQ) | (rw [if_pos (by omega), if_neg (by omega)] at hQ; exact hQ) | (rw [if_pos (by omega), if_pos (by omega)] at hQ; exact hQ))
        ·
          refine z_aload_n dX10_offends_73 rfl (by omega) ?_
          refine y_geta (k' := 7) fl_X10_23 rfl dX10_offends_74 sh_240 (by decide) (gf_240_7 hg) ?_
          refine z_bipush dX10_offends_77 ⟨by decide, by decide⟩ ?_
          refine z_iload_n dX10_offends_79 rfl ?_
          refine y_iadd dX10_offends_80 (by omega) (by omega) ?_
          refine z_iconst dX10_offends_81 ⟨by decide, by decide⟩ ?_
          refine z_iastore dX10_offends_82 sh_244 (by omega) (by omega) ?_
          refine z_aload_n dX10_offends_83 rfl (by omega) ?_
          refine y_geta (k' := 7) fl_X10_23 rfl dX10_offends_84 sh_240 (by decide) (gf_240_7 hg) ?_
          refine z_iconst dX10_offends_87 ⟨by decide, by decide⟩ ?_
          refine z_iload_n dX10_offends_88 rfl ?_
          refine y_imul dX10_offends_89 (by omega) (by omega) ?_
          refine z_iconst dX10_offends_90 ⟨by decide, by decide⟩ ?_
          refine y_iadd dX10_offends_91 (by omega) (by omega) ?_
          refine z_dup2 dX10_offends_92 rfl rfl ?_
          refine z_iaload dX10_offends_93 sh_244 (by omega) (by omega) ((zup_ne (by omega)).trans ((zup_ne (by omega)).trans (KP_ne (by decide) (by omega)))) ?_
          refine z_aload_n dX10_offends_94 rfl (by omega) ?_
          refine z_iload_n dX10_offends_95 rfl ?_
          refine z_iconst dX10_offends_96 ⟨by decide, by decide⟩ ?_
          refine z_callV (T := mX10_of) (As := [_, _]) kX10_of ml_X10_76 ⟨by decide, by decide⟩ dX10_offends_97 rfl rfl (Nat.le_of_ble_eq_true rfl) sh_240 ⟨by decide, rfl⟩ (Nat.le_refl _) (Nat.le_refl _) (qX10_of hg (by omega) (by omega) (by omega) (by omega) ((zup_ne (by omega)).trans ((zup_ne (by omega)).trans (KP_ne (by decide) (by omega)))) ?_)
          refine z_bipush dX10_offends_100 ⟨by decide, by decide⟩ ?_
          refine z_icmp_ge (tgt := 109) dX10_offends_102 (by decide) (fun c102 => ?_) (fun c102 => ?_)
          ·
            refine z_iconst dX10_offends_109 ⟨by decide, by decide⟩ ?_
            refine y_iadd dX10_offends_110 (by omega) (by omega) ?_
            refine z_iastore dX10_offends_111 sh_244 (by omega) (by omega) ?_
            refine z_aload_n dX10_offends_112 rfl (by omega) ?_
            refine y_geta (k' := 7) fl_X10_23 rfl dX10_offends_113 sh_240 (by decide) (gf_240_7 hg) ?_
            refine z_iconst dX10_offends_116 ⟨by decide, by decide⟩ ?_
            refine z_iload_n dX10_offends_117 rfl ?_
            refine y_imul dX10_offends_118 (by omega) (by omega) ?_
            refine z_iconst dX10_offends_119 ⟨by decide, by decide⟩ ?_
            refine y_iadd dX10_offends_120 (by omega) (by omega) ?_
            refine z_dup2 dX10_offends_121 rfl rfl ?_
            refine z_iaload dX10_offends_122 sh_244 (by omega) (by omega) ((zup_ne (by omega)).trans ((zup_ne (by omega)).trans ((zup_ne (by omega)).trans (KP_ne (by decide) (by omega))))) ?_
            refine z_aload_n dX10_offends_123 rfl (by omega) ?_
            refine z_iload_n dX10_offends_124 rfl ?_
            refine z_iconst dX10_offends_125 ⟨by decide, by decide⟩ ?_
            refine z_callV (T := mX10_of) (As := [_, _]) kX10_of ml_X10_76 ⟨by decide, by decide⟩ dX10_offends_126 rfl rfl (Nat.le_of_ble_eq_true rfl) sh_240 ⟨by decide, rfl⟩ (Nat.le_refl _) (Nat.le_refl _) (qX10_of hg (by omega) (by omega) (by omega) (by omega) ((zup_ne (by omega)).trans ((zup_ne (by omega)).trans ((zup_ne (by omega)).trans (KP_ne (by decide) (by omega))))) ?_)
            refine z_sipush dX10_offends_129 ⟨by decide, by decide⟩ ?_
            refine z_icmp_ge (tgt := 139) dX10_offends_132 (by decide) (fun c132 => ?_) (fun c132 => ?_)
            ·
              refine z_iconst dX10_offends_139 ⟨by decide, by decide⟩ ?_
              refine y_iadd dX10_offends_140 (by omega) (by omega) ?_
              refine z_iastore dX10_offends_141 sh_244 (by omega) (by omega) ?_
              refine z_aload_n dX10_offends_142 rfl (by omega) ?_
              refine y_geta (k' := 7) fl_X10_23 rfl dX10_offends_143 sh_240 (by decide) (gf_240_7 hg) ?_
              refine z_bipush dX10_offends_146 ⟨by decide, by decide⟩ ?_
              refine z_iload_n dX10_offends_148 rfl ?_
              refine y_iadd dX10_offends_149 (by omega) (by omega) ?_
              refine z_iaload dX10_offends_150 sh_244 (by omega) (by omega) rfl ?_
              refine z_ret (v := some (zi _)) dX10_offends_151 trivial (Nat.add_zero _).symm (Nat.add_zero _).symm rfl ?_
              first
                | (rw [offR, if_pos b2, if_pos b18, if_pos b30, if_pos c70] at hQ; rw [zup_same]; exact hQ)
                | (rw [offR, if_pos b2, if_pos b18, if_pos b30, if_neg c70] at hQ; rw [zup_ne (by omega), zup_ne (by omega), zup_same]; first | (rw [if_neg (by omega), if_neg (by omega)] at hQ; exact hQ) | (rw [if_neg (by omega), if_pos (by omega)] at hQ; exact hQ) | (rw [if_pos (by omega), if_neg (by omega)] at hQ; exact hQ) | (rw [if_pos (by omega), if_pos (by omega)] at hQ; exact hQ))
            ·
              refine z_iconst dX10_offends_135 ⟨by decide, by decide⟩ ?_
              refine z_goto (tgt := 140) dX10_offends_136 (by decide) ?_
              refine y_iadd dX10_offends_140 (by omega) (by omega) ?_
              refine z_iastore dX10_offends_141 sh_244 (by omega) (by omega) ?_
              refine z_aload_n dX10_offends_142 rfl (by omega) ?_
              refine y_geta (k' := 7) fl_X10_23 rfl dX10_offends_143 sh_240 (by decide) (gf_240_7 hg) ?_
              refine z_bipush dX10_offends_146 ⟨by decide, by decide⟩ ?_
              refine z_iload_n dX10_offends_148 rfl ?_
              refine y_iadd dX10_offends_149 (by omega) (by omega) ?_
              refine z_iaload dX10_offends_150 sh_244 (by omega) (by omega) rfl ?_
              refine z_ret (v := some (zi _)) dX10_offends_151 trivial (Nat.add_zero _).symm (Nat.add_zero _).symm rfl ?_
              first
                | (rw [offR, if_pos b2, if_pos b18, if_pos b30, if_pos c70] at hQ; rw [zup_same]; exact hQ)
                | (rw [offR, if_pos b2, if_pos b18, if_pos b30, if_neg c70] at hQ; rw [zup_ne (by omega), zup_ne (by omega), zup_same]; first | (rw [if_neg (by omega), if_neg (by omega)] at hQ; exact hQ) | (rw [if_neg (by omega), if_pos (by omega)] at hQ; exact hQ) | (rw [if_pos (by omega), if_neg (by omega)] at hQ; exact hQ) | (rw [if_pos (by omega), if_pos (by omega)] at hQ; exact hQ))
          ·
            refine z_iconst dX10_offends_105 ⟨by decide, by decide⟩ ?_
            refine z_goto (tgt := 110) dX10_offends_106 (by decide) ?_
            refine y_iadd dX10_offends_110 (by omega) (by omega) ?_
            refine z_iastore dX10_offends_111 sh_244 (by omega) (by omega) ?_
            refine z_aload_n dX10_offends_112 rfl (by omega) ?_
            refine y_geta (k' := 7) fl_X10_23 rfl dX10_offends_113 sh_240 (by decide) (gf_240_7 hg) ?_
            refine z_iconst dX10_offends_116 ⟨by decide, by decide⟩ ?_
            refine z_iload_n dX10_offends_117 rfl ?_
            refine y_imul dX10_offends_118 (by omega) (by omega) ?_
            refine z_iconst dX10_offends_119 ⟨by decide, by decide⟩ ?_
            refine y_iadd dX10_offends_120 (by omega) (by omega) ?_
            refine z_dup2 dX10_offends_121 rfl rfl ?_
            refine z_iaload dX10_offends_122 sh_244 (by omega) (by omega) ((zup_ne (by omega)).trans ((zup_ne (by omega)).trans ((zup_ne (by omega)).trans (KP_ne (by decide) (by omega))))) ?_
            refine z_aload_n dX10_offends_123 rfl (by omega) ?_
            refine z_iload_n dX10_offends_124 rfl ?_
            refine z_iconst dX10_offends_125 ⟨by decide, by decide⟩ ?_
            refine z_callV (T := mX10_of) (As := [_, _]) kX10_of ml_X10_76 ⟨by decide, by decide⟩ dX10_offends_126 rfl rfl (Nat.le_of_ble_eq_true rfl) sh_240 ⟨by decide, rfl⟩ (Nat.le_refl _) (Nat.le_refl _) (qX10_of hg (by omega) (by omega) (by omega) (by omega) ((zup_ne (by omega)).trans ((zup_ne (by omega)).trans ((zup_ne (by omega)).trans (KP_ne (by decide) (by omega))))) ?_)
            refine z_sipush dX10_offends_129 ⟨by decide, by decide⟩ ?_
            refine z_icmp_ge (tgt := 139) dX10_offends_132 (by decide) (fun c132 => ?_) (fun c132 => ?_)
            ·
              refine z_iconst dX10_offends_139 ⟨by decide, by decide⟩ ?_
              refine y_iadd dX10_offends_140 (by omega) (by omega) ?_
              refine z_iastore dX10_offends_141 sh_244 (by omega) (by omega) ?_
              refine z_aload_n dX10_offends_142 rfl (by omega) ?_
              refine y_geta (k' := 7) fl_X10_23 rfl dX10_offends_143 sh_240 (by decide) (gf_240_7 hg) ?_
              refine z_bipush dX10_offends_146 ⟨by decide, by decide⟩ ?_
              refine z_iload_n dX10_offends_148 rfl ?_
              refine y_iadd dX10_offends_149 (by omega) (by omega) ?_
              refine z_iaload dX10_offends_150 sh_244 (by omega) (by omega) rfl ?_
              refine z_ret (v := some (zi _)) dX10_offends_151 trivial (Nat.add_zero _).symm (Nat.add_zero _).symm rfl ?_
              first
                | (rw [offR, if_pos b2, if_pos b18, if_pos b30, if_pos c70] at hQ; rw [zup_same]; exact hQ)
                | (rw [offR, if_pos b2, if_pos b18, if_pos b30, if_neg c70] at hQ; rw [zup_ne (by omega), zup_ne (by omega), zup_same]; first | (rw [if_neg (by omega), if_neg (by omega)] at hQ; exact hQ) | (rw [if_neg (by omega), if_pos (by omega)] at hQ; exact hQ) | (rw [if_pos (by omega), if_neg (by omega)] at hQ; exact hQ) | (rw [if_pos (by omega), if_pos (by omega)] at hQ; exact hQ))
            ·
              refine z_iconst dX10_offends_135 ⟨by decide, by decide⟩ ?_
              refine z_goto (tgt := 140) dX10_offends_136 (by decide) ?_
              refine y_iadd dX10_offends_140 (by omega) (by omega) ?_
              refine z_iastore dX10_offends_141 sh_244 (by omega) (by omega) ?_
              refine z_aload_n dX10_offends_142 rfl (by omega) ?_
              refine y_geta (k' := 7) fl_X10_23 rfl dX10_offends_143 sh_240 (by decide) (gf_240_7 hg) ?_
              refine z_bipush dX10_offends_146 ⟨by decide, by decide⟩ ?_
              refine z_iload_n dX10_offends_148 rfl ?_
              refine y_iadd dX10_offends_149 (by omega) (by omega) ?_
              refine z_iaload dX10_offends_150 sh_244 (by omega) (by omega) rfl ?_
              refine z_ret (v := some (zi _)) dX10_offends_151 trivial (Nat.add_zero _).symm (Nat.add_zero _).symm rfl ?_
              first
                | (rw [offR, if_pos b2, if_pos b18, if_pos b30, if_pos c70] at hQ; rw [zup_same]; exact hQ)
                | (rw [offR, if_pos b2, if_pos b18, if_pos b30, if_neg c70] at hQ; rw [zup_ne (by omega), zup_ne (by omega), zup_same]; first | (rw [if_neg (by omega), if_neg (by omega)] at hQ; exact hQ) | (rw [if_neg (by omega), if_pos (by omega)] at hQ; exact hQ) | (rw [if_pos (by omega), if_neg (by omega)] at hQ; exact hQ) | (rw [if_pos (by omega), if_pos (by omega)] at hQ; exact hQ))
      ·
        refine z_if_ne (tgt := 38) dX10_offends_33 (by decide) (fun q => False.elim (by omega)) (fun _ => ?_)
        refine z_iconst dX10_offends_36 ⟨by decide, by decide⟩ ?_
        refine z_ret (v := some (zi _)) dX10_offends_37 trivial (Nat.add_zero _).symm (Nat.add_zero _).symm rfl ?_
        first
          | (rw [offR, if_neg b2] at hQ; exact hQ)
          | (rw [offR, if_pos b2, if_neg b18] at hQ; exact hQ)
          | (rw [offR, if_pos b2, if_pos b18, if_neg b30] at hQ; exact hQ)
    ·
      refine z_if_eq (tgt := 36) dX10_offends_21 (by decide) (fun _ => ?_) (fun q => False.elim (by omega))
      refine z_iconst dX10_offends_36 ⟨by decide, by decide⟩ ?_
      refine z_ret (v := some (zi _)) dX10_offends_37 trivial (Nat.add_zero _).symm (Nat.add_zero _).symm rfl ?_
      first
        | (rw [offR, if_neg b2] at hQ; exact hQ)
        | (rw [offR, if_pos b2, if_neg b18] at hQ; exact hQ)
        | (rw [offR, if_pos b2, if_pos b18, if_neg b30] at hQ; exact hQ)
  ·
    refine z_if_eq (tgt := 36) dX10_offends_5 (by decide) (fun _ => ?_) (fun q => False.elim (by omega))
    refine z_iconst dX10_offends_36 ⟨by decide, by decide⟩ ?_
    refine z_ret (v := some (zi _)) dX10_offends_37 trivial (Nat.add_zero _).symm (Nat.add_zero _).symm rfl ?_
    first
      | (rw [offR, if_neg b2] at hQ; exact hQ)
      | (rw [offR, if_pos b2, if_neg b18] at hQ; exact hQ)
      | (rw [offR, if_pos b2, if_pos b18, if_neg b30] at hQ; exact hQ)
def shiR (h : zH) (a b : Int) : Int × zH :=
  if 0 ≤ a ∧ a < h 240 3 then (if 0 ≤ b ∧ b < h 240 3 then (if a = b then (-1, h) else
    (if h 244 (4 * a) = h 244 (4 * b) ∧ h 244 (4 * a + 1) ≠ 0 ∧ h 244 (4 * b + 1) ≤ 98 then
      (h 244 (4 * b + 1) + 1, zup (zup (KP h) 244 (4 * a + 1) (h 244 (4 * a + 1) - 1)) 244 (4 * b + 1) (h 244 (4 * b + 1) + 1)) else (-2, h)))
    else (-1, h)) else (-1, h)
theorem qX10_shifts {l : Launch} {g h : zH} {Q : zQt} (hg : zGd g) (hm : MB h) {a b : Int} (hQ : Q (some (zi (shiR h a b).1)) (SHL, g) (shiR h a b).2) : zC l mX10_shifts [zr 240, zi a, zi b] (SHL, g) h Q := by
  refine z_method kX10_shifts.1 rfl (Nat.le_of_ble_eq_true rfl) (fun hok hh => ?_)
  obtain ⟨m0, m1, m2, m3, m4, m5, m6, m7⟩ := hm.1
  refine z_aload_n dX10_shifts_0 rfl (by omega) ?_
  refine z_iload_n dX10_shifts_1 rfl ?_
  refine z_callV (T := mX10_isDirector) (As := [_]) kX10_isDirector ml_X10_179 ⟨by decide, by decide⟩ dX10_shifts_2 rfl rfl (Nat.le_of_ble_eq_true rfl) sh_240 ⟨by decide, rfl⟩ (Nat.le_refl _) (Nat.le_refl _) (qX10_isDirector hg hm (fun b2 => ?_) (fun b2 => ?_))
  ·
    refine z_if_eq (tgt := 21) dX10_shifts_5 (by decide) (fun q => False.elim (by omega)) (fun _ => ?_)
    refine z_aload_n dX10_shifts_8 rfl (by omega) ?_
    refine z_iload_n dX10_shifts_9 rfl ?_
    refine z_callV (T := mX10_isDirector) (As := [_]) kX10_isDirector ml_X10_179 ⟨by decide, by decide⟩ dX10_shifts_10 rfl rfl (Nat.le_of_ble_eq_true rfl) sh_240 ⟨by decide, rfl⟩ (Nat.le_refl _) (Nat.le_refl _) (qX10_isDirector hg hm (fun b10 => ?_) (fun b10 => ?_))
    ·
      refine z_if_eq (tgt := 21) dX10_shifts_13 (by decide) (fun q => False.elim (by omega)) (fun _ => ?_)
      refine z_iload_n dX10_shifts_16 rfl ?_
      refine z_iload_n dX10_shifts_17 rfl ?_
      refine z_icmp_ne (tgt := 23) dX10_shifts_18 (by decide) (fun c18 => ?_) (fun c18 => ?_)
      ·
        have f1 := nb0 hm.2.2.2.2.1 b2.1 b2.2
        have f2 := nb0 hm.2.2.2.2.1 b10.1 b10.2
        refine z_aload_n dX10_shifts_23 rfl (by omega) ?_
        refine z_iload_n dX10_shifts_24 rfl ?_
        refine z_iconst dX10_shifts_25 ⟨by decide, by decide⟩ ?_
        refine z_callV (T := mX10_of) (As := [_, _]) kX10_of ml_X10_76 ⟨by decide, by decide⟩ dX10_shifts_26 rfl rfl (Nat.le_of_ble_eq_true rfl) sh_240 ⟨by decide, rfl⟩ (Nat.le_refl _) (Nat.le_refl _) (qX10_of hg (by omega) (by omega) (by omega) (by omega) (by rw [Int.add_zero]) ?_)
        refine z_aload_n dX10_shifts_29 rfl (by omega) ?_
        refine z_iload_n dX10_shifts_30 rfl ?_
        refine z_iconst dX10_shifts_31 ⟨by decide, by decide⟩ ?_
        refine z_callV (T := mX10_of) (As := [_, _]) kX10_of ml_X10_76 ⟨by decide, by decide⟩ dX10_shifts_32 rfl rfl (Nat.le_of_ble_eq_true rfl) sh_240 ⟨by decide, rfl⟩ (Nat.le_refl _) (Nat.le_refl _) (qX10_of hg (by omega) (by omega) (by omega) (by omega) (by rw [Int.add_zero]) ?_)
        refine z_icmp_ne (tgt := 58) dX10_shifts_35 (by decide) (fun c35 => ?_) (fun c35 => ?_)
        ·
          refine z_bipush dX10_shifts_58 ⟨by decide, by decide⟩ ?_
          refine z_ret (v := some (zi _)) dX10_shifts_60 trivial (Nat.add_zero _).symm (Nat.add_zero _).symm rfl ?_
          first
            | (rw [shiR, if_pos b2, if_pos b10, if_neg (by omega), if_neg (by omega)] at hQ; exact hQ)
        ·
          refine z_aload_n dX10_shifts_38 rfl (by omega) ?_
          refine z_iload_n dX10_shifts_39 rfl ?_
          refine z_iconst dX10_shifts_40 ⟨by decide, by decide⟩ ?_
          refine z_callV (T := mX10_of) (As := [_, _]) kX10_of ml_X10_76 ⟨by decide, by decide⟩ dX10_shifts_41 rfl rfl (Nat.le_of_ble_eq_true rfl) sh_240 ⟨by decide, rfl⟩ (Nat.le_refl _) (Nat.le_refl _) (qX10_of hg (by omega) (by omega) (by omega) (by omega) rfl ?_)
          refine z_if_eq (tgt := 58) dX10_shifts_44 (by decide) (fun c44 => ?_) (fun c44 => ?_)
          ·
            refine z_bipush dX10_shifts_58 ⟨by decide, by decide⟩ ?_
            refine z_ret (v := some (zi _)) dX10_shifts_60 trivial (Nat.add_zero _).symm (Nat.add_zero _).symm rfl ?_
            first
              | (rw [shiR, if_pos b2, if_pos b10, if_neg (by omega), if_neg (by omega)] at hQ; exact hQ)
          ·
            refine z_aload_n dX10_shifts_47 rfl (by omega) ?_
            refine z_iload_n dX10_shifts_48 rfl ?_
            refine z_iconst dX10_shifts_49 ⟨by decide, by decide⟩ ?_
            refine z_callV (T := mX10_of) (As := [_, _]) kX10_of ml_X10_76 ⟨by decide, by decide⟩ dX10_shifts_50 rfl rfl (Nat.le_of_ble_eq_true rfl) sh_240 ⟨by decide, rfl⟩ (Nat.le_refl _) (Nat.le_refl _) (qX10_of hg (by omega) (by omega) (by omega) (by omega) rfl ?_)
            refine z_bipush dX10_shifts_53 ⟨by decide, by decide⟩ ?_
            refine z_icmp_le (tgt := 61) dX10_shifts_55 (by decide) (fun c55 => ?_) (fun c55 => ?_)
            ·
              refine z_aload_n dX10_shifts_61 rfl (by omega) ?_
              refine z_callV (T := mX10_keepPast) (As := []) kX10_keepPast ml_X10_194 ⟨by decide, by decide⟩ dX10_shifts_62 rfl rfl (Nat.le_of_ble_eq_true rfl) sh_240 ⟨by decide, rfl⟩ (Nat.le_refl _) (Nat.le_refl _) (qX10_keepPast hg hm ?_)
              refine z_aload_n dX10_shifts_65 rfl (by omega) ?_
              refine y_geta (k' := 7) fl_X10_23 rfl dX10_shifts_66 sh_240 (by decide) (gf_240_7 hg) ?_
              refine z_iconst dX10_shifts_69 ⟨by decide, by decide⟩ ?_
              refine z_iload_n dX10_shifts_70 rfl ?_
              refine y_imul dX10_shifts_71 (by omega) (by omega) ?_
              refine z_iconst dX10_shifts_72 ⟨by decide, by decide⟩ ?_
              refine y_iadd dX10_shifts_73 (by omega) (by omega) ?_
              refine z_dup2 dX10_shifts_74 rfl rfl ?_
              refine z_iaload dX10_shifts_75 sh_244 (by omega) (by omega) (KP_ne (by decide) (by omega)) ?_
              refine z_iconst dX10_shifts_76 ⟨by decide, by decide⟩ ?_
              refine y_isub dX10_shifts_77 (by omega) (by omega) ?_
              refine z_iastore dX10_shifts_78 sh_244 (by omega) (by omega) ?_
              refine z_aload_n dX10_shifts_79 rfl (by omega) ?_
              refine y_geta (k' := 7) fl_X10_23 rfl dX10_shifts_80 sh_240 (by decide) (gf_240_7 hg) ?_
              refine z_iconst dX10_shifts_83 ⟨by decide, by decide⟩ ?_
              refine z_iload_n dX10_shifts_84 rfl ?_
              refine y_imul dX10_shifts_85 (by omega) (by omega) ?_
              refine z_iconst dX10_shifts_86 ⟨by decide, by decide⟩ ?_
              refine y_iadd dX10_shifts_87 (by omega) (by omega) ?_
              refine z_dup2 dX10_shifts_88 rfl rfl ?_
              refine z_iaload dX10_shifts_89 sh_244 (by omega) (by omega) ((zup_ne (by omega)).trans (KP_ne (by decide) (by omega))) ?_
              refine z_iconst dX10_shifts_90 ⟨by decide, by decide⟩ ?_
              refine y_iadd dX10_shifts_91 (by omega) (by omega) ?_
              refine z_iastore dX10_shifts_92 sh_244 (by omega) (by omega) ?_
              refine z_aload_n dX10_shifts_93 rfl (by omega) ?_
              refine z_iload_n dX10_shifts_94 rfl ?_
              refine z_iconst dX10_shifts_95 ⟨by decide, by decide⟩ ?_
              refine z_callV (T := mX10_of) (As := [_, _]) kX10_of ml_X10_76 ⟨by decide, by decide⟩ dX10_shifts_96 rfl rfl (Nat.le_of_ble_eq_true rfl) sh_240 ⟨by decide, rfl⟩ (Nat.le_refl _) (Nat.le_refl _) (qX10_of hg (by omega) (by omega) (by omega) (by omega) (zup_same _ _ _ _) ?_)
              refine z_ret (v := some (zi _)) dX10_shifts_99 trivial (Nat.add_zero _).symm (Nat.add_zero _).symm rfl ?_
              first
                | (rw [shiR, if_pos b2, if_pos b10, if_neg (by omega), if_pos (by omega)] at hQ; exact hQ)
            ·
              refine z_bipush dX10_shifts_58 ⟨by decide, by decide⟩ ?_
              refine z_ret (v := some (zi _)) dX10_shifts_60 trivial (Nat.add_zero _).symm (Nat.add_zero _).symm rfl ?_
              first
                | (rw [shiR, if_pos b2, if_pos b10, if_neg (by omega), if_neg (by omega)] at hQ; exact hQ)
      ·
        refine z_iconst dX10_shifts_21 ⟨by decide, by decide⟩ ?_
        refine z_ret (v := some (zi _)) dX10_shifts_22 trivial (Nat.add_zero _).symm (Nat.add_zero _).symm rfl ?_
        first
          | (rw [shiR, if_neg b2] at hQ; exact hQ)
          | (rw [shiR, if_pos b2, if_neg b10] at hQ; exact hQ)
          | (rw [shiR, if_pos b2, if_pos b10, if_pos (by omega)] at hQ; exact hQ)
    ·
      refine z_if_eq (tgt := 21) dX10_shifts_13 (by decide) (fun _ => ?_) (fun q => False.elim (by omega))
      refine z_iconst dX10_shifts_21 ⟨by decide, by decide⟩ ?_
      refine z_ret (v := some (zi _)) dX10_shifts_22 trivial (Nat.add_zero _).symm (Nat.add_zero _).symm rfl ?_
      first
        | (rw [shiR, if_neg b2] at hQ; exact hQ)
        | (rw [shiR, if_pos b2, if_neg b10] at hQ; exact hQ)
        | (rw [shiR, if_pos b2, if_pos b10, if_pos (by omega)] at hQ; exact hQ)
  ·
    refine z_if_eq (tgt := 21) dX10_shifts_5 (by decide) (fun _ => ?_) (fun q => False.elim (by omega))
    refine z_iconst dX10_shifts_21 ⟨by decide, by decide⟩ ?_
    refine z_ret (v := some (zi _)) dX10_shifts_22 trivial (Nat.add_zero _).symm (Nat.add_zero _).symm rfl ?_
    first
      | (rw [shiR, if_neg b2] at hQ; exact hQ)
      | (rw [shiR, if_pos b2, if_neg b10] at hQ; exact hQ)
      | (rw [shiR, if_pos b2, if_pos b10, if_pos (by omega)] at hQ; exact hQ)
