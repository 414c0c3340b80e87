/-! The reference's other calls without a search. -/
theorem zup_zup (h : zH) (r k v u : Int) : zup (zup h r k v) r k u = zup h r k u := by
  funext a b
  unfold zup
  split <;> rfl
def undoR (h : zH) : Int × zH := if h 240 9 = 0 then (-2, h) else (h 240 9 - 1, cpo (zup h 240 9 (h 240 9 - 1)) 244 0 245 (29 * (h 240 9 - 1)) 29)
theorem lpX10_undo {l : Launch} {g h : zH} {Q : zQt}  (hg : zGd g) (g0 : 0 ≤ h 240 9) (g1 : h 240 9 ≤ 9) (K : zW zX0 l mX10_undo ((SHL, g).1.length + zmc mX10_undo) (ztot (SHL, g) + zms mX10_undo) Q 54 [some (zr 240), some (zi ((29 : Nat) : Int))] [] (SHL, g) (cpo h 244 0 245 (29 * h 240 9) (29))) : ∀ (n i : Nat), i + n = 29 → zW zX0 l mX10_undo ((SHL, g).1.length + zmc mX10_undo) (ztot (SHL, g) + zms mX10_undo) Q 22 [some (zr 240), some (zi (i : Int))] [] (SHL, g) (cpo h 244 0 245 (29 * h 240 9) i) := by
  intro n
  induction n with
  | zero =>
    intro i hi
    have e9 : i = 29 := by omega
    subst e9
    refine z_iload_n dX10_undo_22 rfl ?_
    refine z_bipush dX10_undo_23 ⟨by decide, by decide⟩ ?_
    refine z_icmp_ge (tgt := 54) dX10_undo_25 (by decide) (fun _ => ?_) (fun q => False.elim (by omega))
    exact K
  | succ n ih =>
    intro i hi
    refine z_iload_n dX10_undo_22 rfl ?_
    refine z_bipush dX10_undo_23 ⟨by decide, by decide⟩ ?_
    refine z_icmp_ge (tgt := 54) dX10_undo_25 (by decide) (fun q => False.elim (by omega)) (fun _ => ?_)
    refine z_aload_n dX10_undo_28 rfl (by omega) ?_
    refine y_geta (k' := 7) fl_X10_23 rfl dX10_undo_29 sh_240 (by decide) (gf_240_7 hg) ?_
    refine z_iload_n dX10_undo_32 rfl ?_
    refine z_aload_n dX10_undo_33 rfl (by omega) ?_
    refine y_geta (k' := 8) fl_X10_26 rfl dX10_undo_34 sh_240 (by decide) (gf_240_8 hg) ?_
    refine z_bipush dX10_undo_37 ⟨by decide, by decide⟩ ?_
    refine z_aload_n dX10_undo_39 rfl (by omega) ?_
    refine y_geti (k' := 9) fl_X10_135 rfl dX10_undo_40 sh_240 (by decide) (cpo_ne (by decide)) ?_
    refine y_imul dX10_undo_43 (by omega) (by omega) ?_
    refine z_iload_n dX10_undo_44 rfl ?_
    refine y_iadd dX10_undo_45 (by omega) (by omega) ?_
    refine z_iaload dX10_undo_46 sh_245 (by omega) (by omega) (cpo_ne (by decide)) ?_
    refine z_iastore dX10_undo_47 sh_244 (by omega) (by omega) ?_
    refine y_iinc dX10_undo_48 (by decide) rfl rfl (by omega) (by omega) lss_2_1 ?_
    refine z_goto (tgt := 22) dX10_undo_51 (by decide) ?_
    rw [cpo_succ (by omega) (by congr 1)]
    exact ih (i + 1) (by omega)
theorem qX10_undo {l : Launch} {g h : zH} {Q : zQt} (hg : zGd g) (hm : MB h) (hQ : Q (some (zi (undoR h).1)) (SHL, g) (undoR h).2) : zC l mX10_undo [zr 240] (SHL, g) h Q := by
  refine z_method kX10_undo.1 rfl (Nat.le_of_ble_eq_true rfl) (fun hok hh => ?_)
  obtain ⟨m0, m1, m2, m3, m4, m5, m6, m7⟩ := hm.1
  refine z_aload_n dX10_undo_0 rfl (by omega) ?_
  refine y_geti (k' := 9) fl_X10_135 rfl dX10_undo_1 sh_240 (by decide) rfl ?_
  refine z_if_ne (tgt := 10) dX10_undo_4 (by decide) (fun c4 => ?_) (fun c4 => ?_)
  ·
    refine z_aload_n dX10_undo_10 rfl (by omega) ?_
    refine z_dup dX10_undo_11 rfl ?_
    refine y_geti (k' := 9) fl_X10_135 rfl dX10_undo_12 sh_240 (by decide) rfl ?_
    refine z_iconst dX10_undo_15 ⟨by decide, by decide⟩ ?_
    refine y_isub dX10_undo_16 (by omega) (by omega) ?_
    refine y_puti (k' := 9) fl_X10_135 rfl dX10_undo_17 sh_240 (by decide)  ?_
    refine z_iconst dX10_undo_20 ⟨by decide, by decide⟩ ?_
    refine z_istore_n dX10_undo_21 (by decide) rfl lss_2_1 ?_
    rw [undoR, if_neg (by omega)] at hQ
    have e1 : zup h 240 9 (h 240 9 - 1) 240 9 = h 240 9 - 1 := zup_same _ _ _ _
    have K := lpX10_undo (l := l) (Q := Q) (h := zup h 240 9 (h 240 9 - 1)) hg (by rw [e1]; omega) (by rw [e1]; omega) (by
      refine z_aload_n dX10_undo_54 rfl (by omega) ?_
      refine y_geti (k' := 9) fl_X10_135 rfl dX10_undo_55 sh_240 (by decide) ((cpo_ne (by decide)).trans (zup_same _ _ _ _)) ?_
      refine z_ret (v := some (zi _)) dX10_undo_58 trivial (Nat.add_zero _).symm (Nat.add_zero _).symm rfl ?_
      rw [e1]
      exact hQ) 29 0 rfl
    rw [cpo_0] at K
    exact K
  ·
    refine z_bipush dX10_undo_7 ⟨by decide, by decide⟩ ?_
    refine z_ret (v := some (zi _)) dX10_undo_9 trivial (Nat.add_zero _).symm (Nat.add_zero _).symm rfl ?_
    first
      | (rw [undoR, if_pos (by omega)] at hQ; exact hQ)
def keepR (h : zH) (j : Int) : Int × zH := if 0 ≤ j ∧ j ≤ 1 then (sumN (fun d => h 244 (4 * d + 1)) (h 240 3).toNat, zup (zup (cpo (cpo h 246 (320 * j) 244 0 29) 246 (320 * j + 29) 245 0 290) 246 (320 * j + 319) (h 240 9)) 247 j 1) else (-1, h)
theorem lpX10_keep1 {l : Launch} {g h : zH} {Q : zQt} {j : Int} (hg : zGd g) (g0 : 0 ≤ j) (g1 : j ≤ 1) (K : zW zX0 l mX10_keep ((SHL, g).1.length + zmc mX10_keep) (ztot (SHL, g) + zms mX10_keep) Q 46 [some (zr 240), some (zi j), some (zi (320 * j)), some (zi ((29 : Nat) : Int))] [] (SHL, g) (cpo h 246 (320 * j) 244 0 (29))) : ∀ (n i : Nat), i + n = 29 → zW zX0 l mX10_keep ((SHL, g).1.length + zmc mX10_keep) (ztot (SHL, g) + zms mX10_keep) Q 20 [some (zr 240), some (zi j), some (zi (320 * j)), some (zi (i : Int))] [] (SHL, g) (cpo h 246 (320 * j) 244 0 i) := by
  intro n
  induction n with
  | zero =>
    intro i hi
    have e9 : i = 29 := by omega
    subst e9
    refine z_iload_n dX10_keep_20 rfl ?_
    refine z_bipush dX10_keep_21 ⟨by decide, by decide⟩ ?_
    refine z_icmp_ge (tgt := 46) dX10_keep_23 (by decide) (fun _ => ?_) (fun q => False.elim (by omega))
    exact K
  | succ n ih =>
    intro i hi
    refine z_iload_n dX10_keep_20 rfl ?_
    refine z_bipush dX10_keep_21 ⟨by decide, by decide⟩ ?_
    refine z_icmp_ge (tgt := 46) dX10_keep_23 (by decide) (fun q => False.elim (by omega)) (fun _ => ?_)
    refine z_aload_n dX10_keep_26 rfl (by omega) ?_
    refine y_geta (k' := 10) fl_X10_29 rfl dX10_keep_27 sh_240 (by decide) (gf_240_10 hg) ?_
    refine z_iload_n dX10_keep_30 rfl ?_
    refine z_iload_n dX10_keep_31 rfl ?_
    refine y_iadd dX10_keep_32 (by omega) (by omega) ?_
    refine z_aload_n dX10_keep_33 rfl (by omega) ?_
    refine y_geta (k' := 7) fl_X10_23 rfl dX10_keep_34 sh_240 (by decide) (gf_240_7 hg) ?_
    refine z_iload_n dX10_keep_37 rfl ?_
    refine z_iaload dX10_keep_38 sh_244 (by omega) (by omega) (cpo_ne (by decide)) ?_
    refine z_iastore dX10_keep_39 sh_246 (by omega) (by omega) ?_
    refine y_iinc dX10_keep_40 (by decide) rfl rfl (by omega) (by omega) lss_4_3 ?_
    refine z_goto (tgt := 20) dX10_keep_43 (by decide) ?_
    rw [cpo_succ (by omega) (by congr 1; omega)]
    exact ih (i + 1) (by omega)
theorem lpX10_keep2 {l : Launch} {g h : zH} {Q : zQt} {j : Int} (hg : zGd g) (g0 : 0 ≤ j) (g1 : j ≤ 1) (K : zW zX0 l mX10_keep ((SHL, g).1.length + zmc mX10_keep) (ztot (SHL, g) + zms mX10_keep) Q 78 [some (zr 240), some (zi j), some (zi (320 * j)), some (zi ((290 : Nat) : Int))] [] (SHL, g) (cpo h 246 (320 * j + 29) 245 0 (290))) : ∀ (n i : Nat), i + n = 290 → zW zX0 l mX10_keep ((SHL, g).1.length + zmc mX10_keep) (ztot (SHL, g) + zms mX10_keep) Q 48 [some (zr 240), some (zi j), some (zi (320 * j)), some (zi (i : Int))] [] (SHL, g) (cpo h 246 (320 * j + 29) 245 0 i) := by
  intro n
  induction n with
  | zero =>
    intro i hi
    have e9 : i = 290 := by omega
    subst e9
    refine z_iload_n dX10_keep_48 rfl ?_
    refine z_sipush dX10_keep_49 ⟨by decide, by decide⟩ ?_
    refine z_icmp_ge (tgt := 78) dX10_keep_52 (by decide) (fun _ => ?_) (fun q => False.elim (by omega))
    exact K
  | succ n ih =>
    intro i hi
    refine z_iload_n dX10_keep_48 rfl ?_
    refine z_sipush dX10_keep_49 ⟨by decide, by decide⟩ ?_
    refine z_icmp_ge (tgt := 78) dX10_keep_52 (by decide) (fun q => False.elim (by omega)) (fun _ => ?_)
    refine z_aload_n dX10_keep_55 rfl (by omega) ?_
    refine y_geta (k' := 10) fl_X10_29 rfl dX10_keep_56 sh_240 (by decide) (gf_240_10 hg) ?_
    refine z_iload_n dX10_keep_59 rfl ?_
    refine z_bipush dX10_keep_60 ⟨by decide, by decide⟩ ?_
    refine y_iadd dX10_keep_62 (by omega) (by omega) ?_
    refine z_iload_n dX10_keep_63 rfl ?_
    refine y_iadd dX10_keep_64 (by omega) (by omega) ?_
    refine z_aload_n dX10_keep_65 rfl (by omega) ?_
    refine y_geta (k' := 8) fl_X10_26 rfl dX10_keep_66 sh_240 (by decide) (gf_240_8 hg) ?_
    refine z_iload_n dX10_keep_69 rfl ?_
    refine z_iaload dX10_keep_70 sh_245 (by omega) (by omega) (cpo_ne (by decide)) ?_
    refine z_iastore dX10_keep_71 sh_246 (by omega) (by omega) ?_
    refine y_iinc dX10_keep_72 (by decide) rfl rfl (by omega) (by omega) lss_4_3 ?_
    refine z_goto (tgt := 48) dX10_keep_75 (by decide) ?_
    rw [cpo_succ (by omega) (by congr 1; omega)]
    exact ih (i + 1) (by omega)
theorem qX10_keep {l : Launch} {g h : zH} {Q : zQt} (hg : zGd g) (hm : MB h) {j : Int} (hQ : Q (some (zi (keepR h j).1)) (SHL, g) (keepR h j).2) : zC l mX10_keep [zr 240, zi j] (SHL, g) h Q := by
  refine z_method kX10_keep.1 rfl (Nat.le_of_ble_eq_true rfl) (fun hok hh => ?_)
  obtain ⟨m0, m1, m2, m3, m4, m5, m6, m7⟩ := hm.1
  refine z_iload_n dX10_keep_0 rfl ?_
  refine z_i2l dX10_keep_1 ?_
  refine z_lconst0 dX10_keep_2 ?_
  refine z_lconst1 dX10_keep_3 ?_
  refine z_callS (T := mX10_in) (As := [_, _, _]) kX10_in ml_X10_69 ⟨by decide, by decide⟩ dX10_keep_4 rfl rfl (Nat.le_of_ble_eq_true rfl) (Nat.le_refl _) (Nat.le_refl _) (qX10_in (fun b4 => ?_) (fun b4 => ?_))
  ·
    refine z_if_ne (tgt := 12) dX10_keep_7 (by decide) (fun _ => ?_) (fun q => False.elim (by omega))
    refine z_sipush dX10_keep_12 ⟨by decide, by decide⟩ ?_
    refine z_iload_n dX10_keep_15 rfl ?_
    refine y_imul dX10_keep_16 (by omega) (by omega) ?_
    refine z_istore_n dX10_keep_17 (by decide) rfl lss_4_2 ?_
    refine z_iconst dX10_keep_18 ⟨by decide, by decide⟩ ?_
    refine z_istore_n dX10_keep_19 (by decide) rfl lss_4_3 ?_
    rw [keepR, if_pos b4] at hQ
    have K := lpX10_keep1 (l := l) (Q := Q) (h := h) (j := j) hg b4.1 b4.2 (by
      refine z_iconst dX10_keep_46 ⟨by decide, by decide⟩ ?_
      refine z_istore_n dX10_keep_47 (by decide) rfl lss_4_3 ?_
      have K := lpX10_keep2 (l := l) (Q := Q) (h := cpo h 246 (320 * j) 244 0 29) (j := j) hg b4.1 b4.2 (by
        refine z_aload_n dX10_keep_78 rfl (by omega) ?_
        refine y_geta (k' := 10) fl_X10_29 rfl dX10_keep_79 sh_240 (by decide) (gf_240_10 hg) ?_
        refine z_iload_n dX10_keep_82 rfl ?_
        refine z_sipush dX10_keep_83 ⟨by decide, by decide⟩ ?_
        refine y_iadd dX10_keep_86 (by omega) (by omega) ?_
        refine z_aload_n dX10_keep_87 rfl (by omega) ?_
        refine y_geti (k' := 9) fl_X10_135 rfl dX10_keep_88 sh_240 (by decide) ((cpo_ne (by decide)).trans (cpo_ne (by decide))) ?_
        refine z_iastore dX10_keep_91 sh_246 (by omega) (by omega) ?_
        refine z_aload_n dX10_keep_92 rfl (by omega) ?_
        refine y_geta (k' := 11) fl_X10_32 rfl dX10_keep_93 sh_240 (by decide) (gf_240_11 hg) ?_
        refine z_iload_n dX10_keep_96 rfl ?_
        refine z_iconst dX10_keep_97 ⟨by decide, by decide⟩ ?_
        refine z_bastore dX10_keep_98 sh_247 (by omega) (by omega) (by omega) ?_
        refine z_aload_n dX10_keep_99 rfl (by omega) ?_
        refine z_callV (T := mX10_stones) (As := []) kX10_stones ml_X10_221 ⟨by decide, by decide⟩ dX10_keep_100 rfl rfl (Nat.le_of_ble_eq_true rfl) sh_240 ⟨by decide, rfl⟩ (Nat.le_refl _) (Nat.le_refl _) (qX10_stones hg m2 (fun d d0 d1 => (nb0 hm.2.2.2.2.1 d0 d1).2.1) ?_)
        refine z_ret (v := some (zi _)) dX10_keep_103 trivial (Nat.add_zero _).symm (Nat.add_zero _).symm rfl ?_
        exact hQ) 290 0 rfl
      rw [cpo_0] at K
      exact K) 29 0 rfl
    rw [cpo_0] at K
    exact K
  ·
    refine z_if_ne (tgt := 12) dX10_keep_7 (by decide) (fun q => False.elim (by omega)) (fun _ => ?_)
    refine z_iconst dX10_keep_10 ⟨by decide, by decide⟩ ?_
    refine z_ret (v := some (zi _)) dX10_keep_11 trivial (Nat.add_zero _).symm (Nat.add_zero _).symm rfl ?_
    first
      | (rw [keepR, if_neg b4] at hQ; exact hQ)
def backR (h : zH) (j : Int) : Int × zH := if 0 ≤ j ∧ j ≤ 1 then (if h 247 j = 0 then (-2, h) else (sumN (fun d => h 246 (320 * j + 4 * d + 1)) (h 240 3).toNat, zup (cpo (cpo h 244 0 246 (320 * j) 29) 245 0 246 (320 * j + 29) 290) 240 9 (h 246 (320 * j + 319)))) else (-1, h)
theorem sumN_congr {f f' : Int → Int} : ∀ n : Nat, (∀ d : Int, 0 ≤ d → d < n → f d = f' d) → sumN f n = sumN f' n := by
  intro n
  induction n with
  | zero => intro _; rfl
  | succ n ih =>
    intro hf
    show sumN f n + f n = sumN f' n + f' n
    rw [ih (fun d d0 d1 => hf d d0 (by omega)), hf n (by omega) (by omega)]
theorem lpX10_back1 {l : Launch} {g h : zH} {Q : zQt} {j : Int} (hg : zGd g) (g0 : 0 ≤ j) (g1 : j ≤ 1) (K : zW zX0 l mX10_back ((SHL, g).1.length + zmc mX10_back) (ztot (SHL, g) + zms mX10_back) Q 58 [some (zr 240), some (zi j), some (zi (320 * j)), some (zi ((29 : Nat) : Int))] [] (SHL, g) (cpo h 244 0 246 (320 * j) (29))) : ∀ (n i : Nat), i + n = 29 → zW zX0 l mX10_back ((SHL, g).1.length + zmc mX10_back) (ztot (SHL, g) + zms mX10_back) Q 32 [some (zr 240), some (zi j), some (zi (320 * j)), some (zi (i : Int))] [] (SHL, g) (cpo h 244 0 246 (320 * j) i) := by
  intro n
  induction n with
  | zero =>
    intro i hi
    have e9 : i = 29 := by omega
    subst e9
    refine z_iload_n dX10_back_32 rfl ?_
    refine z_bipush dX10_back_33 ⟨by decide, by decide⟩ ?_
    refine z_icmp_ge (tgt := 58) dX10_back_35 (by decide) (fun _ => ?_) (fun q => False.elim (by omega))
    exact K
  | succ n ih =>
    intro i hi
    refine z_iload_n dX10_back_32 rfl ?_
    refine z_bipush dX10_back_33 ⟨by decide, by decide⟩ ?_
    refine z_icmp_ge (tgt := 58) dX10_back_35 (by decide) (fun q => False.elim (by omega)) (fun _ => ?_)
    refine z_aload_n dX10_back_38 rfl (by omega) ?_
    refine y_geta (k' := 7) fl_X10_23 rfl dX10_back_39 sh_240 (by decide) (gf_240_7 hg) ?_
    refine z_iload_n dX10_back_42 rfl ?_
    refine z_aload_n dX10_back_43 rfl (by omega) ?_
    refine y_geta (k' := 10) fl_X10_29 rfl dX10_back_44 sh_240 (by decide) (gf_240_10 hg) ?_
    refine z_iload_n dX10_back_47 rfl ?_
    refine z_iload_n dX10_back_48 rfl ?_
    refine y_iadd dX10_back_49 (by omega) (by omega) ?_
    refine z_iaload dX10_back_50 sh_246 (by omega) (by omega) (cpo_ne (by decide)) ?_
    refine z_iastore dX10_back_51 sh_244 (by omega) (by omega) ?_
    refine y_iinc dX10_back_52 (by decide) rfl rfl (by omega) (by omega) lss_4_3 ?_
    refine z_goto (tgt := 32) dX10_back_55 (by decide) ?_
    rw [cpo_succ (by omega) (by congr 1)]
    exact ih (i + 1) (by omega)
theorem lpX10_back2 {l : Launch} {g h : zH} {Q : zQt} {j : Int} (hg : zGd g) (g0 : 0 ≤ j) (g1 : j ≤ 1) (K : zW zX0 l mX10_back ((SHL, g).1.length + zmc mX10_back) (ztot (SHL, g) + zms mX10_back) Q 90 [some (zr 240), some (zi j), some (zi (320 * j)), some (zi ((290 : Nat) : Int))] [] (SHL, g) (cpo h 245 0 246 (320 * j + 29) (290))) : ∀ (n i : Nat), i + n = 290 → zW zX0 l mX10_back ((SHL, g).1.length + zmc mX10_back) (ztot (SHL, g) + zms mX10_back) Q 60 [some (zr 240), some (zi j), some (zi (320 * j)), some (zi (i : Int))] [] (SHL, g) (cpo h 245 0 246 (320 * j + 29) i) := by
  intro n
  induction n with
  | zero =>
    intro i hi
    have e9 : i = 290 := by omega
    subst e9
    refine z_iload_n dX10_back_60 rfl ?_
    refine z_sipush dX10_back_61 ⟨by decide, by decide⟩ ?_
    refine z_icmp_ge (tgt := 90) dX10_back_64 (by decide) (fun _ => ?_) (fun q => False.elim (by omega))
    exact K
  | succ n ih =>
    intro i hi
    refine z_iload_n dX10_back_60 rfl ?_
    refine z_sipush dX10_back_61 ⟨by decide, by decide⟩ ?_
    refine z_icmp_ge (tgt := 90) dX10_back_64 (by decide) (fun q => False.elim (by omega)) (fun _ => ?_)
    refine z_aload_n dX10_back_67 rfl (by omega) ?_
    refine y_geta (k' := 8) fl_X10_26 rfl dX10_back_68 sh_240 (by decide) (gf_240_8 hg) ?_
    refine z_iload_n dX10_back_71 rfl ?_
    refine z_aload_n dX10_back_72 rfl (by omega) ?_
    refine y_geta (k' := 10) fl_X10_29 rfl dX10_back_73 sh_240 (by decide) (gf_240_10 hg) ?_
    refine z_iload_n dX10_back_76 rfl ?_
    refine z_bipush dX10_back_77 ⟨by decide, by decide⟩ ?_
    refine y_iadd dX10_back_79 (by omega) (by omega) ?_
    refine z_iload_n dX10_back_80 rfl ?_
    refine y_iadd dX10_back_81 (by omega) (by omega) ?_
    refine z_iaload dX10_back_82 sh_246 (by omega) (by omega) (cpo_ne (by decide)) ?_
    refine z_iastore dX10_back_83 sh_245 (by omega) (by omega) ?_
    refine y_iinc dX10_back_84 (by decide) rfl rfl (by omega) (by omega) lss_4_3 ?_
    refine z_goto (tgt := 60) dX10_back_87 (by decide) ?_
    rw [cpo_succ (by omega) (by congr 1)]
    exact ih (i + 1) (by omega)
theorem qX10_back {l : Launch} {g h : zH} {Q : zQt} (hg : zGd g) (hm : MB h) {j : Int} (hQ : Q (some (zi (backR h j).1)) (SHL, g) (backR h j).2) : zC l mX10_back [zr 240, zi j] (SHL, g) h Q := by
  refine z_method kX10_back.1 rfl (Nat.le_of_ble_eq_true rfl) (fun hok hh => ?_)
  obtain ⟨m0, m1, m2, m3, m4, m5, m6, m7⟩ := hm.1
  refine z_iload_n dX10_back_0 rfl ?_
  refine z_i2l dX10_back_1 ?_
  refine z_lconst0 dX10_back_2 ?_
  refine z_lconst1 dX10_back_3 ?_
  refine z_callS (T := mX10_in) (As := [_, _, _]) kX10_in ml_X10_69 ⟨by decide, by decide⟩ dX10_back_4 rfl rfl (Nat.le_of_ble_eq_true rfl) (Nat.le_refl _) (Nat.le_refl _) (qX10_in (fun b4 => ?_) (fun b4 => ?_))
  ·
    refine z_if_ne (tgt := 12) dX10_back_7 (by decide) (fun _ => ?_) (fun q => False.elim (by omega))
    refine z_aload_n dX10_back_12 rfl (by omega) ?_
    refine y_geta (k' := 11) fl_X10_32 rfl dX10_back_13 sh_240 (by decide) (gf_240_11 hg) ?_
    refine z_iload_n dX10_back_16 rfl ?_
    refine z_baload dX10_back_17 sh_247 (by omega) (by omega) rfl ?_
    refine z_if_ne (tgt := 24) dX10_back_18 (by decide) (fun c18 => ?_) (fun c18 => ?_)
    ·
      refine z_sipush dX10_back_24 ⟨by decide, by decide⟩ ?_
      refine z_iload_n dX10_back_27 rfl ?_
      refine y_imul dX10_back_28 (by omega) (by omega) ?_
      refine z_istore_n dX10_back_29 (by decide) rfl lss_4_2 ?_
      refine z_iconst dX10_back_30 ⟨by decide, by decide⟩ ?_
      refine z_istore_n dX10_back_31 (by decide) rfl lss_4_3 ?_
      rw [backR, if_pos b4, if_neg (by omega)] at hQ
      have hi := hm.2.2.2.2.2.2.1 j b4.1 (by omega)
      have hnb := (hi.2 (by have := hi.1; omega)).1.1
      have rd : ∀ d : Int, 0 ≤ d → d < h 240 3 → cpo h 244 0 246 (320 * j) 29 244 (4 * d + 1) = h 246 (320 * j + 4 * d + 1) := fun d d0 d1 => by
        rw [cpo_in (by omega) (by omega)]
        congr 1
        omega
      have K := lpX10_back1 (l := l) (Q := Q) (h := h) (j := j) hg b4.1 b4.2 (by
        refine z_iconst dX10_back_58 ⟨by decide, by decide⟩ ?_
        refine z_istore_n dX10_back_59 (by decide) rfl lss_4_3 ?_
        have K := lpX10_back2 (l := l) (Q := Q) (h := cpo h 244 0 246 (320 * j) 29) (j := j) hg b4.1 b4.2 (by
          refine z_aload_n dX10_back_90 rfl (by omega) ?_
          refine z_aload_n dX10_back_91 rfl (by omega) ?_
          refine y_geta (k' := 10) fl_X10_29 rfl dX10_back_92 sh_240 (by decide) (gf_240_10 hg) ?_
          refine z_iload_n dX10_back_95 rfl ?_
          refine z_sipush dX10_back_96 ⟨by decide, by decide⟩ ?_
          refine y_iadd dX10_back_99 (by omega) (by omega) ?_
          refine z_iaload dX10_back_100 sh_246 (by omega) (by omega) ((cpo_ne (by decide)).trans (cpo_ne (by decide))) ?_
          refine y_puti (k' := 9) fl_X10_135 rfl dX10_back_101 sh_240 (by decide)  ?_
          refine z_aload_n dX10_back_104 rfl (by omega) ?_
          refine z_callV (T := mX10_stones) (As := []) kX10_stones ml_X10_221 ⟨by decide, by decide⟩ dX10_back_105 rfl rfl (Nat.le_of_ble_eq_true rfl) sh_240 ⟨by decide, rfl⟩ (Nat.le_refl _) (Nat.le_refl _) (qX10_stones hg m2 (fun d d0 d1 => by have q := (hnb d d0 d1).2.1; show 0 ≤ cpo h 244 0 246 (320 * j) 29 244 (4 * d + 1) ∧ cpo h 244 0 246 (320 * j) 29 244 (4 * d + 1) ≤ 99; rw [rd d d0 d1]; exact q) ?_)
          refine z_ret (v := some (zi _)) dX10_back_108 trivial (Nat.add_zero _).symm (Nat.add_zero _).symm rfl ?_
          have e9 : sumN (fun d => cpo h 244 0 246 (320 * j) 29 244 (4 * d + 1)) (h 240 3).toNat = sumN (fun d => h 246 (320 * j + 4 * d + 1)) (h 240 3).toNat := sumN_congr _ (fun d d0 d1 => rd d d0 (by omega))
          rw [← e9] at hQ
          exact hQ) 290 0 rfl
        rw [cpo_0] at K
        exact K) 29 0 rfl
      rw [cpo_0] at K
      exact K
    ·
      refine z_bipush dX10_back_21 ⟨by decide, by decide⟩ ?_
      refine z_ret (v := some (zi _)) dX10_back_23 trivial (Nat.add_zero _).symm (Nat.add_zero _).symm rfl ?_
      first
        | (rw [backR, if_pos b4, if_pos (by omega)] at hQ; exact hQ)
  ·
    refine z_if_ne (tgt := 12) dX10_back_7 (by decide) (fun q => False.elim (by omega)) (fun _ => ?_)
    refine z_iconst dX10_back_10 ⟨by decide, by decide⟩ ?_
    refine z_ret (v := some (zi _)) dX10_back_11 trivial (Nat.add_zero _).symm (Nat.add_zero _).symm rfl ?_
    first
      | (rw [backR, if_neg b4] at hQ; exact hQ)
def typeR (h : zH) (c : Int) : Int × zH := if 0 ≤ c ∧ c ≤ 255 then (if h 240 16 = 150 then (-3, h) else (h 240 16 + 1, zup (zup h 249 (h 240 16) c) 240 16 (h 240 16 + 1))) else (-1, h)
theorem qX10_type {l : Launch} {g h : zH} {Q : zQt} (hg : zGd g) (hm : MB h) {c : Int} (hQ : Q (some (zi (typeR h c).1)) (SHL, g) (typeR h c).2) : zC l mX10_type [zr 240, zi c] (SHL, g) h Q := by
  refine z_method kX10_type.1 rfl (Nat.le_of_ble_eq_true rfl) (fun hok hh => ?_)
  obtain ⟨m0, m1, m2, m3, m4, m5, m6, m7⟩ := hm.1
  refine z_iload_n dX10_type_0 rfl ?_
  refine z_i2l dX10_type_1 ?_
  refine z_lconst0 dX10_type_2 ?_
  refine z_ldc2 dX10_type_3 kc_X10_80 ⟨by decide, by decide⟩ ?_
  refine z_callS (T := mX10_in) (As := [_, _, _]) kX10_in ml_X10_69 ⟨by decide, by decide⟩ dX10_type_6 rfl rfl (Nat.le_of_ble_eq_true rfl) (Nat.le_refl _) (Nat.le_refl _) (qX10_in (fun b6 => ?_) (fun b6 => ?_))
  ·
    refine z_if_ne (tgt := 14) dX10_type_9 (by decide) (fun _ => ?_) (fun q => False.elim (by omega))
    refine z_aload_n dX10_type_14 rfl (by omega) ?_
    refine y_geti (k' := 16) fl_X10_82 rfl dX10_type_15 sh_240 (by decide) rfl ?_
    refine z_sipush dX10_type_18 ⟨by decide, by decide⟩ ?_
    refine z_icmp_ne (tgt := 27) dX10_type_21 (by decide) (fun c21 => ?_) (fun c21 => ?_)
    ·
      refine z_aload_n dX10_type_27 rfl (by omega) ?_
      refine y_geta (k' := 15) fl_X10_39 rfl dX10_type_28 sh_240 (by decide) (gf_240_15 hg) ?_
      refine z_aload_n dX10_type_31 rfl (by omega) ?_
      refine y_geti (k' := 16) fl_X10_82 rfl dX10_type_32 sh_240 (by decide) rfl ?_
      refine z_iload_n dX10_type_35 rfl ?_
      refine z_iastore dX10_type_36 sh_249 (by omega) (by omega) ?_
      refine z_aload_n dX10_type_37 rfl (by omega) ?_
      refine z_dup dX10_type_38 rfl ?_
      refine y_geti (k' := 16) fl_X10_82 rfl dX10_type_39 sh_240 (by decide) (zup_ne (by omega)) ?_
      refine z_iconst dX10_type_42 ⟨by decide, by decide⟩ ?_
      refine y_iadd dX10_type_43 (by omega) (by omega) ?_
      refine y_puti (k' := 16) fl_X10_82 rfl dX10_type_44 sh_240 (by decide)  ?_
      refine z_aload_n dX10_type_47 rfl (by omega) ?_
      refine y_geti (k' := 16) fl_X10_82 rfl dX10_type_48 sh_240 (by decide) (zup_same _ _ _ _) ?_
      refine z_ret (v := some (zi _)) dX10_type_51 trivial (Nat.add_zero _).symm (Nat.add_zero _).symm rfl ?_
      first
        | (rw [typeR, if_pos b6, if_neg (by omega)] at hQ; exact hQ)
    ·
      refine z_bipush dX10_type_24 ⟨by decide, by decide⟩ ?_
      refine z_ret (v := some (zi _)) dX10_type_26 trivial (Nat.add_zero _).symm (Nat.add_zero _).symm rfl ?_
      first
        | (rw [typeR, if_pos b6, if_pos (by omega)] at hQ; exact hQ)
  ·
    refine z_if_ne (tgt := 14) dX10_type_9 (by decide) (fun q => False.elim (by omega)) (fun _ => ?_)
    refine z_iconst dX10_type_12 ⟨by decide, by decide⟩ ?_
    refine z_ret (v := some (zi _)) dX10_type_13 trivial (Nat.add_zero _).symm (Nat.add_zero _).symm rfl ?_
    first
      | (rw [typeR, if_neg b6] at hQ; exact hQ)
def clearR (h : zH) : Int × zH := (h 240 16, zup h 240 16 0)
def forgetR (h : zH) : Int × zH := (h 240 13, zup h 240 13 0)
theorem qX10_clear {l : Launch} {g h : zH} {Q : zQt} (hg : zGd g) (hQ : Q (some (zi (clearR h).1)) (SHL, g) (clearR h).2) : zC l mX10_clear [zr 240] (SHL, g) h Q := by
  refine z_method kX10_clear.1 rfl (Nat.le_of_ble_eq_true rfl) (fun hok hh => ?_)
  refine z_aload_n dX10_clear_0 rfl (by omega) ?_
  refine y_geti (k' := 16) fl_X10_82 rfl dX10_clear_1 sh_240 (by decide) rfl ?_
  refine z_istore_n dX10_clear_4 (by decide) rfl lss_2_1 ?_
  refine z_aload_n dX10_clear_5 rfl (by omega) ?_
  refine z_iconst dX10_clear_6 ⟨by decide, by decide⟩ ?_
  refine y_puti (k' := 16) fl_X10_82 rfl dX10_clear_7 sh_240 (by decide)  ?_
  refine z_iload_n dX10_clear_10 rfl ?_
  refine z_ret (v := some (zi _)) dX10_clear_11 trivial (Nat.add_zero _).symm (Nat.add_zero _).symm rfl ?_
  exact hQ
theorem qX10_forget {l : Launch} {g h : zH} {Q : zQt} (hg : zGd g) (hQ : Q (some (zi (forgetR h).1)) (SHL, g) (forgetR h).2) : zC l mX10_forget [zr 240] (SHL, g) h Q := by
  refine z_method kX10_forget.1 rfl (Nat.le_of_ble_eq_true rfl) (fun hok hh => ?_)
  refine z_aload_n dX10_forget_0 rfl (by omega) ?_
  refine y_geti (k' := 13) fl_X10_138 rfl dX10_forget_1 sh_240 (by decide) rfl ?_
  refine z_istore_n dX10_forget_4 (by decide) rfl lss_2_1 ?_
  refine z_aload_n dX10_forget_5 rfl (by omega) ?_
  refine z_iconst dX10_forget_6 ⟨by decide, by decide⟩ ?_
  refine y_puti (k' := 13) fl_X10_138 rfl dX10_forget_7 sh_240 (by decide)  ?_
  refine z_iload_n dX10_forget_10 rfl ?_
  refine z_ret (v := some (zi _)) dX10_forget_11 trivial (Nat.add_zero _).symm (Nat.add_zero _).symm rfl ?_
  exact hQ
def hearsR (h : zH) (p w : Int) : Int × zH := if 0 ≤ p ∧ p < h 240 1 then (if 0 ≤ w ∧ w ≤ 1 then (if h 240 13 = 4 then (-3, h) else (h 240 13 + 1, zup (zup (zup h 248 (2 * h 240 13) p) 248 (2 * h 240 13 + 1) w) 240 13 (h 240 13 + 1))) else (-1, h)) else (-1, h)
theorem qX10_hears {l : Launch} {g h : zH} {Q : zQt} (hg : zGd g) (hm : MB h) {p w : Int} (hQ : Q (some (zi (hearsR h p w).1)) (SHL, g) (hearsR h p w).2) : zC l mX10_hears [zr 240, zi p, zi w] (SHL, g) h Q := by
  refine z_method kX10_hears.1 rfl (Nat.le_of_ble_eq_true rfl) (fun hok hh => ?_)
  obtain ⟨m0, m1, m2, m3, m4, m5, m6, m7⟩ := hm.1
  refine z_aload_n dX10_hears_0 rfl (by omega) ?_
  refine z_iload_n dX10_hears_1 rfl ?_
  refine z_callV (T := mX10_isPath) (As := [_]) kX10_isPath ml_X10_174 ⟨by decide, by decide⟩ dX10_hears_2 rfl rfl (Nat.le_of_ble_eq_true rfl) sh_240 ⟨by decide, rfl⟩ (Nat.le_refl _) (Nat.le_refl _) (qX10_isPath hg hm (fun b2 => ?_) (fun b2 => ?_))
  ·
    refine z_if_eq (tgt := 18) dX10_hears_5 (by decide) (fun q => False.elim (by omega)) (fun _ => ?_)
    refine z_iload_n dX10_hears_8 rfl ?_
    refine z_i2l dX10_hears_9 ?_
    refine z_lconst0 dX10_hears_10 ?_
    refine z_lconst1 dX10_hears_11 ?_
    refine z_callS (T := mX10_in) (As := [_, _, _]) kX10_in ml_X10_69 ⟨by decide, by decide⟩ dX10_hears_12 rfl rfl (Nat.le_of_ble_eq_true rfl) (Nat.le_refl _) (Nat.le_refl _) (qX10_in (fun b12 => ?_) (fun b12 => ?_))
    ·
      refine z_if_ne (tgt := 20) dX10_hears_15 (by decide) (fun _ => ?_) (fun q => False.elim (by omega))
      refine z_aload_n dX10_hears_20 rfl (by omega) ?_
      refine y_geti (k' := 13) fl_X10_138 rfl dX10_hears_21 sh_240 (by decide) rfl ?_
      refine z_iconst dX10_hears_24 ⟨by decide, by decide⟩ ?_
      refine z_icmp_ne (tgt := 31) dX10_hears_25 (by decide) (fun c25 => ?_) (fun c25 => ?_)
      ·
        refine z_aload_n dX10_hears_31 rfl (by omega) ?_
        refine y_geta (k' := 12) fl_X10_36 rfl dX10_hears_32 sh_240 (by decide) (gf_240_12 hg) ?_
        refine z_iconst dX10_hears_35 ⟨by decide, by decide⟩ ?_
        refine z_aload_n dX10_hears_36 rfl (by omega) ?_
        refine y_geti (k' := 13) fl_X10_138 rfl dX10_hears_37 sh_240 (by decide) rfl ?_
        refine y_imul dX10_hears_40 (by omega) (by omega) ?_
        refine z_iload_n dX10_hears_41 rfl ?_
        refine z_iastore dX10_hears_42 sh_248 (by omega) (by omega) ?_
        refine z_aload_n dX10_hears_43 rfl (by omega) ?_
        refine y_geta (k' := 12) fl_X10_36 rfl dX10_hears_44 sh_240 (by decide) (gf_240_12 hg) ?_
        refine z_iconst dX10_hears_47 ⟨by decide, by decide⟩ ?_
        refine z_aload_n dX10_hears_48 rfl (by omega) ?_
        refine y_geti (k' := 13) fl_X10_138 rfl dX10_hears_49 sh_240 (by decide) (zup_ne (by omega)) ?_
        refine y_imul dX10_hears_52 (by omega) (by omega) ?_
        refine z_iconst dX10_hears_53 ⟨by decide, by decide⟩ ?_
        refine y_iadd dX10_hears_54 (by omega) (by omega) ?_
        refine z_iload_n dX10_hears_55 rfl ?_
        refine z_iastore dX10_hears_56 sh_248 (by omega) (by omega) ?_
        refine z_aload_n dX10_hears_57 rfl (by omega) ?_
        refine z_dup dX10_hears_58 rfl ?_
        refine y_geti (k' := 13) fl_X10_138 rfl dX10_hears_59 sh_240 (by decide) ((zup_ne (by omega)).trans (zup_ne (by omega))) ?_
        refine z_iconst dX10_hears_62 ⟨by decide, by decide⟩ ?_
        refine y_iadd dX10_hears_63 (by omega) (by omega) ?_
        refine y_puti (k' := 13) fl_X10_138 rfl dX10_hears_64 sh_240 (by decide)  ?_
        refine z_aload_n dX10_hears_67 rfl (by omega) ?_
        refine y_geti (k' := 13) fl_X10_138 rfl dX10_hears_68 sh_240 (by decide) (zup_same _ _ _ _) ?_
        refine z_ret (v := some (zi _)) dX10_hears_71 trivial (Nat.add_zero _).symm (Nat.add_zero _).symm rfl ?_
        first
          | (rw [hearsR, if_pos b2, if_pos b12, if_neg (by omega)] at hQ; exact hQ)
      ·
        refine z_bipush dX10_hears_28 ⟨by decide, by decide⟩ ?_
        refine z_ret (v := some (zi _)) dX10_hears_30 trivial (Nat.add_zero _).symm (Nat.add_zero _).symm rfl ?_
        first
          | (rw [hearsR, if_pos b2, if_pos b12, if_pos (by omega)] at hQ; exact hQ)
    ·
      refine z_if_ne (tgt := 20) dX10_hears_15 (by decide) (fun q => False.elim (by omega)) (fun _ => ?_)
      refine z_iconst dX10_hears_18 ⟨by decide, by decide⟩ ?_
      refine z_ret (v := some (zi _)) dX10_hears_19 trivial (Nat.add_zero _).symm (Nat.add_zero _).symm rfl ?_
      first
        | (rw [hearsR, if_neg b2] at hQ; exact hQ)
        | (rw [hearsR, if_pos b2, if_neg b12] at hQ; exact hQ)
  ·
    refine z_if_eq (tgt := 18) dX10_hears_5 (by decide) (fun _ => ?_) (fun q => False.elim (by omega))
    refine z_iconst dX10_hears_18 ⟨by decide, by decide⟩ ?_
    refine z_ret (v := some (zi _)) dX10_hears_19 trivial (Nat.add_zero _).symm (Nat.add_zero _).symm rfl ?_
    first
      | (rw [hearsR, if_neg b2] at hQ; exact hQ)
      | (rw [hearsR, if_pos b2, if_neg b12] at hQ; exact hQ)
def countF (h : zH) (w : Int) : Int := if w = 0 then h 240 0 else if w = 1 then h 240 1 else if w = 2 then h 240 3 else if w = 3 then h 240 5 else if w = 4 then h 240 13 else if w = 5 then h 240 9 else if w = 6 then h 240 16 else -1
theorem qX10_count {l : Launch} {g h : zH} {Q : zQt} (hg : zGd g) {x : Int} (hQ : Q (some (zi (countF h x))) (SHL, g) h) : zC l mX10_count [zr 240, zi x] (SHL, g) h Q := by
  refine z_method kX10_count.1 rfl (Nat.le_of_ble_eq_true rfl) (fun hok hh => ?_)
  refine z_iload_n dX10_count_0 rfl ?_
  refine y_ts (td := 79) [44, 49, 54, 59, 64, 69, 74] dX10_count_1 (by decide) (by decide) (by decide) (fun c1 => ?_) (fun j1 hj1 c1 => ?_)
  ·
    refine z_iconst dX10_count_79 ⟨by decide, by decide⟩ ?_
    refine z_ret (v := some (zi _)) dX10_count_80 trivial (Nat.add_zero _).symm (Nat.add_zero _).symm rfl ?_
    first
      | (rw [countF, if_pos (by omega)] at hQ; exact hQ)
      | (rw [countF, if_neg (by omega), if_pos (by omega)] at hQ; exact hQ)
      | (rw [countF, if_neg (by omega), if_neg (by omega), if_pos (by omega)] at hQ; exact hQ)
      | (rw [countF, if_neg (by omega), if_neg (by omega), if_neg (by omega), if_pos (by omega)] at hQ; exact hQ)
      | (rw [countF, if_neg (by omega), if_neg (by omega), if_neg (by omega), if_neg (by omega), if_pos (by omega)] at hQ; exact hQ)
      | (rw [countF, if_neg (by omega), if_neg (by omega), if_neg (by omega), if_neg (by omega), if_neg (by omega), if_pos (by omega)] at hQ; exact hQ)
      | (rw [countF, if_neg (by omega), if_neg (by omega), if_neg (by omega), if_neg (by omega), if_neg (by omega), if_neg (by omega), if_pos (by omega)] at hQ; exact hQ)
      | (rw [countF, if_neg (by omega), if_neg (by omega), if_neg (by omega), if_neg (by omega), if_neg (by omega), if_neg (by omega), if_neg (by omega)] at hQ; exact hQ)
  ·
    rcases (show j1 = 0 ∨ j1 = 1 ∨ j1 = 2 ∨ j1 = 3 ∨ j1 = 4 ∨ j1 = 5 ∨ j1 = 6 by have h9 : j1 < 7 := hj1; omega) with rfl | rfl | rfl | rfl | rfl | rfl | rfl
    ·
      refine z_aload_n dX10_count_44 rfl (by omega) ?_
      refine y_geti (k' := 0) fl_X10_7 rfl dX10_count_45 sh_240 (by decide) rfl ?_
      refine z_ret (v := some (zi _)) dX10_count_48 trivial (Nat.add_zero _).symm (Nat.add_zero _).symm rfl ?_
      first
        | (rw [countF, if_pos (by omega)] at hQ; exact hQ)
        | (rw [countF, if_neg (by omega), if_pos (by omega)] at hQ; exact hQ)
        | (rw [countF, if_neg (by omega), if_neg (by omega), if_pos (by omega)] at hQ; exact hQ)
        | (rw [countF, if_neg (by omega), if_neg (by omega), if_neg (by omega), if_pos (by omega)] at hQ; exact hQ)
        | (rw [countF, if_neg (by omega), if_neg (by omega), if_neg (by omega), if_neg (by omega), if_pos (by omega)] at hQ; exact hQ)
        | (rw [countF, if_neg (by omega), if_neg (by omega), if_neg (by omega), if_neg (by omega), if_neg (by omega), if_pos (by omega)] at hQ; exact hQ)
        | (rw [countF, if_neg (by omega), if_neg (by omega), if_neg (by omega), if_neg (by omega), if_neg (by omega), if_neg (by omega), if_pos (by omega)] at hQ; exact hQ)
        | (rw [countF, if_neg (by omega), if_neg (by omega), if_neg (by omega), if_neg (by omega), if_neg (by omega), if_neg (by omega), if_neg (by omega)] at hQ; exact hQ)
    ·
      refine z_aload_n dX10_count_49 rfl (by omega) ?_
      refine y_geti (k' := 1) fl_X10_73 rfl dX10_count_50 sh_240 (by decide) rfl ?_
      refine z_ret (v := some (zi _)) dX10_count_53 trivial (Nat.add_zero _).symm (Nat.add_zero _).symm rfl ?_
      first
        | (rw [countF, if_pos (by omega)] at hQ; exact hQ)
        | (rw [countF, if_neg (by omega), if_pos (by omega)] at hQ; exact hQ)
        | (rw [countF, if_neg (by omega), if_neg (by omega), if_pos (by omega)] at hQ; exact hQ)
        | (rw [countF, if_neg (by omega), if_neg (by omega), if_neg (by omega), if_pos (by omega)] at hQ; exact hQ)
        | (rw [countF, if_neg (by omega), if_neg (by omega), if_neg (by omega), if_neg (by omega), if_pos (by omega)] at hQ; exact hQ)
        | (rw [countF, if_neg (by omega), if_neg (by omega), if_neg (by omega), if_neg (by omega), if_neg (by omega), if_pos (by omega)] at hQ; exact hQ)
        | (rw [countF, if_neg (by omega), if_neg (by omega), if_neg (by omega), if_neg (by omega), if_neg (by omega), if_neg (by omega), if_pos (by omega)] at hQ; exact hQ)
        | (rw [countF, if_neg (by omega), if_neg (by omega), if_neg (by omega), if_neg (by omega), if_neg (by omega), if_neg (by omega), if_neg (by omega)] at hQ; exact hQ)
    ·
      refine z_aload_n dX10_count_54 rfl (by omega) ?_
      refine y_geti (k' := 3) fl_X10_66 rfl dX10_count_55 sh_240 (by decide) rfl ?_
      refine z_ret (v := some (zi _)) dX10_count_58 trivial (Nat.add_zero _).symm (Nat.add_zero _).symm rfl ?_
      first
        | (rw [countF, if_pos (by omega)] at hQ; exact hQ)
        | (rw [countF, if_neg (by omega), if_pos (by omega)] at hQ; exact hQ)
        | (rw [countF, if_neg (by omega), if_neg (by omega), if_pos (by omega)] at hQ; exact hQ)
        | (rw [countF, if_neg (by omega), if_neg (by omega), if_neg (by omega), if_pos (by omega)] at hQ; exact hQ)
        | (rw [countF, if_neg (by omega), if_neg (by omega), if_neg (by omega), if_neg (by omega), if_pos (by omega)] at hQ; exact hQ)
        | (rw [countF, if_neg (by omega), if_neg (by omega), if_neg (by omega), if_neg (by omega), if_neg (by omega), if_pos (by omega)] at hQ; exact hQ)
        | (rw [countF, if_neg (by omega), if_neg (by omega), if_neg (by omega), if_neg (by omega), if_neg (by omega), if_neg (by omega), if_pos (by omega)] at hQ; exact hQ)
        | (rw [countF, if_neg (by omega), if_neg (by omega), if_neg (by omega), if_neg (by omega), if_neg (by omega), if_neg (by omega), if_neg (by omega)] at hQ; exact hQ)
    ·
      refine z_aload_n dX10_count_59 rfl (by omega) ?_
      refine y_geti (k' := 5) fl_X10_132 rfl dX10_count_60 sh_240 (by decide) rfl ?_
      refine z_ret (v := some (zi _)) dX10_count_63 trivial (Nat.add_zero _).symm (Nat.add_zero _).symm rfl ?_
      first
        | (rw [countF, if_pos (by omega)] at hQ; exact hQ)
        | (rw [countF, if_neg (by omega), if_pos (by omega)] at hQ; exact hQ)
        | (rw [countF, if_neg (by omega), if_neg (by omega), if_pos (by omega)] at hQ; exact hQ)
        | (rw [countF, if_neg (by omega), if_neg (by omega), if_neg (by omega), if_pos (by omega)] at hQ; exact hQ)
        | (rw [countF, if_neg (by omega), if_neg (by omega), if_neg (by omega), if_neg (by omega), if_pos (by omega)] at hQ; exact hQ)
        | (rw [countF, if_neg (by omega), if_neg (by omega), if_neg (by omega), if_neg (by omega), if_neg (by omega), if_pos (by omega)] at hQ; exact hQ)
        | (rw [countF, if_neg (by omega), if_neg (by omega), if_neg (by omega), if_neg (by omega), if_neg (by omega), if_neg (by omega), if_pos (by omega)] at hQ; exact hQ)
        | (rw [countF, if_neg (by omega), if_neg (by omega), if_neg (by omega), if_neg (by omega), if_neg (by omega), if_neg (by omega), if_neg (by omega)] at hQ; exact hQ)
    ·
      refine z_aload_n dX10_count_64 rfl (by omega) ?_
      refine y_geti (k' := 13) fl_X10_138 rfl dX10_count_65 sh_240 (by decide) rfl ?_
      refine z_ret (v := some (zi _)) dX10_count_68 trivial (Nat.add_zero _).symm (Nat.add_zero _).symm rfl ?_
      first
        | (rw [countF, if_pos (by omega)] at hQ; exact hQ)
        | (rw [countF, if_neg (by omega), if_pos (by omega)] at hQ; exact hQ)
        | (rw [countF, if_neg (by omega), if_neg (by omega), if_pos (by omega)] at hQ; exact hQ)
        | (rw [countF, if_neg (by omega), if_neg (by omega), if_neg (by omega), if_pos (by omega)] at hQ; exact hQ)
        | (rw [countF, if_neg (by omega), if_neg (by omega), if_neg (by omega), if_neg (by omega), if_pos (by omega)] at hQ; exact hQ)
        | (rw [countF, if_neg (by omega), if_neg (by omega), if_neg (by omega), if_neg (by omega), if_neg (by omega), if_pos (by omega)] at hQ; exact hQ)
        | (rw [countF, if_neg (by omega), if_neg (by omega), if_neg (by omega), if_neg (by omega), if_neg (by omega), if_neg (by omega), if_pos (by omega)] at hQ; exact hQ)
        | (rw [countF, if_neg (by omega), if_neg (by omega), if_neg (by omega), if_neg (by omega), if_neg (by omega), if_neg (by omega), if_neg (by omega)] at hQ; exact hQ)
    ·
      refine z_aload_n dX10_count_69 rfl (by omega) ?_
      refine y_geti (k' := 9) fl_X10_135 rfl dX10_count_70 sh_240 (by decide) rfl ?_
      refine z_ret (v := some (zi _)) dX10_count_73 trivial (Nat.add_zero _).symm (Nat.add_zero _).symm rfl ?_
      first
        | (rw [countF, if_pos (by omega)] at hQ; exact hQ)
        | (rw [countF, if_neg (by omega), if_pos (by omega)] at hQ; exact hQ)
        | (rw [countF, if_neg (by omega), if_neg (by omega), if_pos (by omega)] at hQ; exact hQ)
        | (rw [countF, if_neg (by omega), if_neg (by omega), if_neg (by omega), if_pos (by omega)] at hQ; exact hQ)
        | (rw [countF, if_neg (by omega), if_neg (by omega), if_neg (by omega), if_neg (by omega), if_pos (by omega)] at hQ; exact hQ)
        | (rw [countF, if_neg (by omega), if_neg (by omega), if_neg (by omega), if_neg (by omega), if_neg (by omega), if_pos (by omega)] at hQ; exact hQ)
        | (rw [countF, if_neg (by omega), if_neg (by omega), if_neg (by omega), if_neg (by omega), if_neg (by omega), if_neg (by omega), if_pos (by omega)] at hQ; exact hQ)
        | (rw [countF, if_neg (by omega), if_neg (by omega), if_neg (by omega), if_neg (by omega), if_neg (by omega), if_neg (by omega), if_neg (by omega)] at hQ; exact hQ)
    ·
      refine z_aload_n dX10_count_74 rfl (by omega) ?_
      refine y_geti (k' := 16) fl_X10_82 rfl dX10_count_75 sh_240 (by decide) rfl ?_
      refine z_ret (v := some (zi _)) dX10_count_78 trivial (Nat.add_zero _).symm (Nat.add_zero _).symm rfl ?_
      first
        | (rw [countF, if_pos (by omega)] at hQ; exact hQ)
        | (rw [countF, if_neg (by omega), if_pos (by omega)] at hQ; exact hQ)
        | (rw [countF, if_neg (by omega), if_neg (by omega), if_pos (by omega)] at hQ; exact hQ)
        | (rw [countF, if_neg (by omega), if_neg (by omega), if_neg (by omega), if_pos (by omega)] at hQ; exact hQ)
        | (rw [countF, if_neg (by omega), if_neg (by omega), if_neg (by omega), if_neg (by omega), if_pos (by omega)] at hQ; exact hQ)
        | (rw [countF, if_neg (by omega), if_neg (by omega), if_neg (by omega), if_neg (by omega), if_neg (by omega), if_pos (by omega)] at hQ; exact hQ)
        | (rw [countF, if_neg (by omega), if_neg (by omega), if_neg (by omega), if_neg (by omega), if_neg (by omega), if_neg (by omega), if_pos (by omega)] at hQ; exact hQ)
        | (rw [countF, if_neg (by omega), if_neg (by omega), if_neg (by omega), if_neg (by omega), if_neg (by omega), if_neg (by omega), if_neg (by omega)] at hQ; exact hQ)
theorem qX10_trace {l : Launch} {g h : zH} {Q : zQt} (hg : zGd g) (hQ : Q (some (zl (h 240 14))) (SHL, g) h) : zC l mX10_trace [zr 240] (SHL, g) h Q := by
  refine z_method kX10_trace.1 rfl (Nat.le_of_ble_eq_true rfl) (fun hok hh => ?_)
  refine z_aload_n dX10_trace_0 rfl (by omega) ?_
  refine y_getl (k' := 14) fl_X10_240 rfl dX10_trace_1 sh_240 (by decide) rfl ?_
  refine z_ret (v := some (zl _)) dX10_trace_4 trivial (Nat.add_zero _).symm (Nat.add_zero _).symm rfl ?_
  exact hQ
def childF (h : zH) (c w : Int) : Int := if 0 ≤ c ∧ c ≤ h 240 5 - 1 then (if 0 ≤ w ∧ w ≤ 1 then (if w = 0 then h 243 c else h 244 (24 + c)) else -1) else -1
theorem qX10_child {l : Launch} {g h : zH} {Q : zQt} (hg : zGd g) (hm : MB h) {c x : Int} (hQ : Q (some (zi (childF h c x))) (SHL, g) h) : zC l mX10_child [zr 240, zi c, zi x] (SHL, g) h Q := by
  refine z_method kX10_child.1 rfl (Nat.le_of_ble_eq_true rfl) (fun hok hh => ?_)
  obtain ⟨m0, m1, m2, m3, m4, m5, m6, m7⟩ := hm.1
  refine z_iload_n dX10_child_0 rfl ?_
  refine z_i2l dX10_child_1 ?_
  refine z_lconst0 dX10_child_2 ?_
  refine z_aload_n dX10_child_3 rfl (by omega) ?_
  refine y_geti (k' := 5) fl_X10_132 rfl dX10_child_4 sh_240 (by decide) rfl ?_
  refine z_iconst dX10_child_7 ⟨by decide, by decide⟩ ?_
  refine y_isub dX10_child_8 (by omega) (by omega) ?_
  refine z_i2l dX10_child_9 ?_
  refine z_callS (T := mX10_in) (As := [_, _, _]) kX10_in ml_X10_69 ⟨by decide, by decide⟩ dX10_child_10 rfl rfl (Nat.le_of_ble_eq_true rfl) (Nat.le_refl _) (Nat.le_refl _) (qX10_in (fun b10 => ?_) (fun b10 => ?_))
  ·
    refine z_if_eq (tgt := 26) dX10_child_13 (by decide) (fun q => False.elim (by omega)) (fun _ => ?_)
    refine z_iload_n dX10_child_16 rfl ?_
    refine z_i2l dX10_child_17 ?_
    refine z_lconst0 dX10_child_18 ?_
    refine z_lconst1 dX10_child_19 ?_
    refine z_callS (T := mX10_in) (As := [_, _, _]) kX10_in ml_X10_69 ⟨by decide, by decide⟩ dX10_child_20 rfl rfl (Nat.le_of_ble_eq_true rfl) (Nat.le_refl _) (Nat.le_refl _) (qX10_in (fun b20 => ?_) (fun b20 => ?_))
    ·
      refine z_if_ne (tgt := 28) dX10_child_23 (by decide) (fun _ => ?_) (fun q => False.elim (by omega))
      refine z_iload_n dX10_child_28 rfl ?_
      refine z_if_ne (tgt := 41) dX10_child_29 (by decide) (fun c29 => ?_) (fun c29 => ?_)
      ·
        refine z_aload_n dX10_child_41 rfl (by omega) ?_
        refine y_geta (k' := 7) fl_X10_23 rfl dX10_child_42 sh_240 (by decide) (gf_240_7 hg) ?_
        refine z_bipush dX10_child_45 ⟨by decide, by decide⟩ ?_
        refine z_iload_n dX10_child_47 rfl ?_
        refine y_iadd dX10_child_48 (by omega) (by omega) ?_
        refine z_iaload dX10_child_49 sh_244 (by omega) (by omega) rfl ?_
        refine z_ret (v := some (zi _)) dX10_child_50 trivial (Nat.add_zero _).symm (Nat.add_zero _).symm rfl ?_
        first
          | (rw [childF, if_neg b10] at hQ; exact hQ)
          | (rw [childF, if_pos b10, if_neg b20] at hQ; exact hQ)
          | (rw [childF, if_pos b10, if_pos b20, if_pos (by omega)] at hQ; exact hQ)
          | (rw [childF, if_pos b10, if_pos b20, if_neg (by omega)] at hQ; exact hQ)
      ·
        refine z_aload_n dX10_child_32 rfl (by omega) ?_
        refine y_geta (k' := 6) fl_X10_20 rfl dX10_child_33 sh_240 (by decide) (gf_240_6 hg) ?_
        refine z_iload_n dX10_child_36 rfl ?_
        refine z_iaload dX10_child_37 sh_243 (by omega) (by omega) rfl ?_
        refine z_goto (tgt := 50) dX10_child_38 (by decide) ?_
        refine z_ret (v := some (zi _)) dX10_child_50 trivial (Nat.add_zero _).symm (Nat.add_zero _).symm rfl ?_
        first
          | (rw [childF, if_neg b10] at hQ; exact hQ)
          | (rw [childF, if_pos b10, if_neg b20] at hQ; exact hQ)
          | (rw [childF, if_pos b10, if_pos b20, if_pos (by omega)] at hQ; exact hQ)
          | (rw [childF, if_pos b10, if_pos b20, if_neg (by omega)] at hQ; exact hQ)
    ·
      refine z_if_ne (tgt := 28) dX10_child_23 (by decide) (fun q => False.elim (by omega)) (fun _ => ?_)
      refine z_iconst dX10_child_26 ⟨by decide, by decide⟩ ?_
      refine z_ret (v := some (zi _)) dX10_child_27 trivial (Nat.add_zero _).symm (Nat.add_zero _).symm rfl ?_
      first
        | (rw [childF, if_neg b10] at hQ; exact hQ)
        | (rw [childF, if_pos b10, if_neg b20] at hQ; exact hQ)
        | (rw [childF, if_pos b10, if_pos b20, if_pos (by omega)] at hQ; exact hQ)
        | (rw [childF, if_pos b10, if_pos b20, if_neg (by omega)] at hQ; exact hQ)
  ·
    refine z_if_eq (tgt := 26) dX10_child_13 (by decide) (fun _ => ?_) (fun q => False.elim (by omega))
    refine z_iconst dX10_child_26 ⟨by decide, by decide⟩ ?_
    refine z_ret (v := some (zi _)) dX10_child_27 trivial (Nat.add_zero _).symm (Nat.add_zero _).symm rfl ?_
    first
      | (rw [childF, if_neg b10] at hQ; exact hQ)
      | (rw [childF, if_pos b10, if_neg b20] at hQ; exact hQ)
      | (rw [childF, if_pos b10, if_pos b20, if_pos (by omega)] at hQ; exact hQ)
      | (rw [childF, if_pos b10, if_pos b20, if_neg (by omega)] at hQ; exact hQ)
theorem qX10_founder {l : Launch} {g h : zH} {Q : zQt} (hg : zGd g) {d : Int} (g0 : 0 ≤ d) (g1 : d < 6) (t0 : 0 ≤ h 240 14) (t1 : h 240 14 ≤ 2000200000) (s0 : 0 ≤ h 244 (4 * d + 1)) (s1 : h 244 (4 * d + 1) ≤ 99) (s2 : 0 ≤ h 242 (3 * d + 1)) (s3 : h 242 (3 * d + 1) ≤ 5) (hQ : Q (some (zi (h 244 (4 * d + 1) + h 242 (3 * d + 1)))) (SHL, g) (zup h 240 14 (h 240 14 + 11))) : zC l mX10_founder [zr 240, zi d] (SHL, g) h Q := by
  refine z_method kX10_founder.1 rfl (Nat.le_of_ble_eq_true rfl) (fun hok hh => ?_)
  refine z_aload_n dX10_founder_0 rfl (by omega) ?_
  refine z_dup dX10_founder_1 rfl ?_
  refine y_getl (k' := 14) fl_X10_240 rfl dX10_founder_2 sh_240 (by decide) rfl ?_
  refine z_ldc2 dX10_founder_5 kc_X10_244 ⟨by decide, by decide⟩ ?_
  refine y_ladd dX10_founder_8 (by omega) (by omega) ?_
  refine y_putl (k' := 14) fl_X10_240 rfl dX10_founder_9 sh_240 (by decide) ⟨by omega, by omega⟩ ?_
  refine z_aload_n dX10_founder_12 rfl (by omega) ?_
  refine z_iload_n dX10_founder_13 rfl ?_
  refine z_iconst dX10_founder_14 ⟨by decide, by decide⟩ ?_
  refine z_callV (T := mX10_of) (As := [_, _]) kX10_of ml_X10_76 ⟨by decide, by decide⟩ dX10_founder_15 rfl rfl (Nat.le_of_ble_eq_true rfl) sh_240 ⟨by decide, rfl⟩ (Nat.le_refl _) (Nat.le_refl _) (qX10_of hg (by omega) (by omega) (by omega) (by omega) (zup_ne (by omega)) ?_)
  refine z_aload_n dX10_founder_18 rfl (by omega) ?_
  refine z_iload_n dX10_founder_19 rfl ?_
  refine z_callV (T := mX10_gravity) (As := [_]) kX10_gravity ml_X10_182 ⟨by decide, by decide⟩ dX10_founder_20 rfl rfl (Nat.le_of_ble_eq_true rfl) sh_240 ⟨by decide, rfl⟩ (Nat.le_refl _) (Nat.le_refl _) (qX10_gravity hg (by omega) (by omega) ?_)
  rw [show zup h 240 14 (h 240 14 + 11) 242 (3 * d + 1) = h 242 (3 * d + 1) from zup_ne (by omega)]
  refine y_iadd dX10_founder_23 (by omega) (by omega) ?_
  refine z_ret (v := some (zi _)) dX10_founder_24 trivial (Nat.add_zero _).symm (Nat.add_zero _).symm rfl ?_
  exact hQ
theorem qX10_chair {l : Launch} {g h : zH} {Q : zQt} (hg : zGd g) {d : Int} (g0 : 0 ≤ d) (g1 : d < 6) (t0 : 0 ≤ h 240 14) (t1 : h 240 14 ≤ 2000200000) (s0 : 0 ≤ h 244 (4 * d + 1)) (s1 : h 244 (4 * d + 1) ≤ 99) (s2 : 0 ≤ h 244 (4 * d + 3)) (s3 : h 244 (4 * d + 3) ≤ 999) (hQ : Q (some (zi (h 244 (4 * d + 1) - h 244 (4 * d + 3)))) (SHL, g) (zup h 240 14 (h 240 14 + 101))) : zC l mX10_chair [zr 240, zi d] (SHL, g) h Q := by
  refine z_method kX10_chair.1 rfl (Nat.le_of_ble_eq_true rfl) (fun hok hh => ?_)
  refine z_aload_n dX10_chair_0 rfl (by omega) ?_
  refine z_dup dX10_chair_1 rfl ?_
  refine y_getl (k' := 14) fl_X10_240 rfl dX10_chair_2 sh_240 (by decide) rfl ?_
  refine z_ldc2 dX10_chair_5 kc_X10_246 ⟨by decide, by decide⟩ ?_
  refine y_ladd dX10_chair_8 (by omega) (by omega) ?_
  refine y_putl (k' := 14) fl_X10_240 rfl dX10_chair_9 sh_240 (by decide) ⟨by omega, by omega⟩ ?_
  refine z_aload_n dX10_chair_12 rfl (by omega) ?_
  refine z_iload_n dX10_chair_13 rfl ?_
  refine z_iconst dX10_chair_14 ⟨by decide, by decide⟩ ?_
  refine z_callV (T := mX10_of) (As := [_, _]) kX10_of ml_X10_76 ⟨by decide, by decide⟩ dX10_chair_15 rfl rfl (Nat.le_of_ble_eq_true rfl) sh_240 ⟨by decide, rfl⟩ (Nat.le_refl _) (Nat.le_refl _) (qX10_of hg (by omega) (by omega) (by omega) (by omega) (zup_ne (by omega)) ?_)
  refine z_aload_n dX10_chair_18 rfl (by omega) ?_
  refine z_iload_n dX10_chair_19 rfl ?_
  refine z_iconst dX10_chair_20 ⟨by decide, by decide⟩ ?_
  refine z_callV (T := mX10_of) (As := [_, _]) kX10_of ml_X10_76 ⟨by decide, by decide⟩ dX10_chair_21 rfl rfl (Nat.le_of_ble_eq_true rfl) sh_240 ⟨by decide, rfl⟩ (Nat.le_refl _) (Nat.le_refl _) (qX10_of hg (by omega) (by omega) (by omega) (by omega) (zup_ne (by omega)) ?_)
  refine y_isub dX10_chair_24 (by omega) (by omega) ?_
  refine z_ret (v := some (zi _)) dX10_chair_25 trivial (Nat.add_zero _).symm (Nat.add_zero _).symm rfl ?_
  exact hQ
def markR (h : zH) (k d : Int) : Int × zH := if 0 ≤ k ∧ k ≤ 5 then (if 0 ≤ d ∧ d < h 240 3 then
  (if k = 0 then (h 244 (4 * d + 1), zup h 240 14 (h 240 14 + 1)) else if k = 1 then (h 244 (4 * d + 1) + h 242 (3 * d + 1), zup h 240 14 (h 240 14 + 11)) else if k = 2 then (h 244 (4 * d + 1) - h 244 (4 * d + 3), zup h 240 14 (h 240 14 + 101))
   else if k = 3 then (2 * (h 244 (4 * d + 1) + h 242 (3 * d + 1)), zup h 240 14 (h 240 14 + 1000 + 11)) else if k = 4 then (h 244 (4 * d + 1) - h 244 (4 * d + 3) + d, zup h 240 14 (h 240 14 + 10000 + 101)) else (h 244 (4 * d + 1) + h 244 (4 * d), zup h 240 14 (h 240 14 + 100001)))
  else (-1000000, h)) else (-1000000, h)
theorem qX10_mark {l : Launch} {g h : zH} {Q : zQt} (hg : zGd g) (hm : MB h) {k d : Int} (hQ : Q (some (zi (markR h k d).1)) (SHL, g) (markR h k d).2) : zC l mX10_mark [zr 240, zi k, zi d] (SHL, g) h Q := by
  refine z_method kX10_mark.1 rfl (Nat.le_of_ble_eq_true rfl) (fun hok hh => ?_)
  obtain ⟨m0, m1, m2, m3, m4, m5, m6, m7⟩ := hm.1
  refine z_iload_n dX10_mark_0 rfl ?_
  refine z_i2l dX10_mark_1 ?_
  refine z_lconst0 dX10_mark_2 ?_
  refine z_ldc2 dX10_mark_3 kc_X10_248 ⟨by decide, by decide⟩ ?_
  refine z_callS (T := mX10_in) (As := [_, _, _]) kX10_in ml_X10_69 ⟨by decide, by decide⟩ dX10_mark_6 rfl rfl (Nat.le_of_ble_eq_true rfl) (Nat.le_refl _) (Nat.le_refl _) (qX10_in (fun b6 => ?_) (fun b6 => ?_))
  ·
    refine z_if_eq (tgt := 20) dX10_mark_9 (by decide) (fun q => False.elim (by omega)) (fun _ => ?_)
    refine z_aload_n dX10_mark_12 rfl (by omega) ?_
    refine z_iload_n dX10_mark_13 rfl ?_
    refine z_callV (T := mX10_isDirector) (As := [_]) kX10_isDirector ml_X10_179 ⟨by decide, by decide⟩ dX10_mark_14 rfl rfl (Nat.le_of_ble_eq_true rfl) sh_240 ⟨by decide, rfl⟩ (Nat.le_refl _) (Nat.le_refl _) (qX10_isDirector hg hm (fun b14 => ?_) (fun b14 => ?_))
    ·
      refine z_if_ne (tgt := 23) dX10_mark_17 (by decide) (fun _ => ?_) (fun q => False.elim (by omega))
      have f1 := nb0 hm.2.2.2.2.1 b14.1 b14.2
      have f2 := hm.2.2.1 d b14.1 b14.2
      refine z_iload_n dX10_mark_23 rfl ?_
      refine y_ts (td := 129) [60, 77, 83, 89, 109] dX10_mark_24 (by decide) (by decide) (by decide) (fun c24 => ?_) (fun j24 hj24 c24 => ?_)
      ·
        refine z_aload_n dX10_mark_129 rfl (by omega) ?_
        refine z_dup dX10_mark_130 rfl ?_
        refine y_getl (k' := 14) fl_X10_240 rfl dX10_mark_131 sh_240 (by decide) rfl ?_
        refine z_ldc2 dX10_mark_134 kc_X10_261 ⟨by decide, by decide⟩ ?_
        refine y_ladd dX10_mark_137 (by omega) (by omega) ?_
        refine y_putl (k' := 14) fl_X10_240 rfl dX10_mark_138 sh_240 (by decide) ⟨by omega, by omega⟩ ?_
        refine z_aload_n dX10_mark_141 rfl (by omega) ?_
        refine z_iload_n dX10_mark_142 rfl ?_
        refine z_iconst dX10_mark_143 ⟨by decide, by decide⟩ ?_
        refine z_callV (T := mX10_of) (As := [_, _]) kX10_of ml_X10_76 ⟨by decide, by decide⟩ dX10_mark_144 rfl rfl (Nat.le_of_ble_eq_true rfl) sh_240 ⟨by decide, rfl⟩ (Nat.le_refl _) (Nat.le_refl _) (qX10_of hg (by omega) (by omega) (by omega) (by omega) (zup_ne (by omega)) ?_)
        refine z_aload_n dX10_mark_147 rfl (by omega) ?_
        refine z_iload_n dX10_mark_148 rfl ?_
        refine z_iconst dX10_mark_149 ⟨by decide, by decide⟩ ?_
        refine z_callV (T := mX10_of) (As := [_, _]) kX10_of ml_X10_76 ⟨by decide, by decide⟩ dX10_mark_150 rfl rfl (Nat.le_of_ble_eq_true rfl) sh_240 ⟨by decide, rfl⟩ (Nat.le_refl _) (Nat.le_refl _) (qX10_of hg (by omega) (by omega) (by omega) (by omega) ((zup_ne (by omega)).trans (congrArg (h 244) (Int.add_zero _))) ?_)
        refine y_iadd dX10_mark_153 (by omega) (by omega) ?_
        refine z_ret (v := some (zi _)) dX10_mark_154 trivial (Nat.add_zero _).symm (Nat.add_zero _).symm rfl ?_
        first
          | (rw [markR, if_neg b6] at hQ; exact hQ)
          | (rw [markR, if_pos b6, if_neg b14] at hQ; exact hQ)
          | (rw [markR, if_pos b6, if_pos b14, if_pos (by omega)] at hQ; exact hQ)
          | (rw [markR, if_pos b6, if_pos b14, if_neg (by omega), if_pos (by omega)] at hQ; exact hQ)
          | (rw [markR, if_pos b6, if_pos b14, if_neg (by omega), if_neg (by omega), if_pos (by omega)] at hQ; exact hQ)
          | (rw [markR, if_pos b6, if_pos b14, if_neg (by omega), if_neg (by omega), if_neg (by omega), if_pos (by omega)] at hQ; exact hQ)
          | (rw [markR, if_pos b6, if_pos b14, if_neg (by omega), if_neg (by omega), if_neg (by omega), if_neg (by omega), if_pos (by omega)] at hQ; exact hQ)
          | (rw [markR, if_pos b6, if_pos b14, if_neg (by omega), if_neg (by omega), if_neg (by omega), if_neg (by omega), if_neg (by omega)] at hQ; exact hQ)
      ·
        rcases (show j24 = 0 ∨ j24 = 1 ∨ j24 = 2 ∨ j24 = 3 ∨ j24 = 4 by have h9 : j24 < 5 := hj24; omega) with rfl | rfl | rfl | rfl | rfl
        ·
          refine z_aload_n dX10_mark_60 rfl (by omega) ?_
          refine z_dup dX10_mark_61 rfl ?_
          refine y_getl (k' := 14) fl_X10_240 rfl dX10_mark_62 sh_240 (by decide) rfl ?_
          refine z_lconst1 dX10_mark_65 ?_
          refine y_ladd dX10_mark_66 (by omega) (by omega) ?_
          refine y_putl (k' := 14) fl_X10_240 rfl dX10_mark_67 sh_240 (by decide) ⟨by omega, by omega⟩ ?_
          refine z_aload_n dX10_mark_70 rfl (by omega) ?_
          refine z_iload_n dX10_mark_71 rfl ?_
          refine z_iconst dX10_mark_72 ⟨by decide, by decide⟩ ?_
          refine z_callV (T := mX10_of) (As := [_, _]) kX10_of ml_X10_76 ⟨by decide, by decide⟩ dX10_mark_73 rfl rfl (Nat.le_of_ble_eq_true rfl) sh_240 ⟨by decide, rfl⟩ (Nat.le_refl _) (Nat.le_refl _) (qX10_of hg (by omega) (by omega) (by omega) (by omega) (zup_ne (by omega)) ?_)
          refine z_ret (v := some (zi _)) dX10_mark_76 trivial (Nat.add_zero _).symm (Nat.add_zero _).symm rfl ?_
          first
            | (rw [markR, if_neg b6] at hQ; exact hQ)
            | (rw [markR, if_pos b6, if_neg b14] at hQ; exact hQ)
            | (rw [markR, if_pos b6, if_pos b14, if_pos (by omega)] at hQ; exact hQ)
            | (rw [markR, if_pos b6, if_pos b14, if_neg (by omega), if_pos (by omega)] at hQ; exact hQ)
            | (rw [markR, if_pos b6, if_pos b14, if_neg (by omega), if_neg (by omega), if_pos (by omega)] at hQ; exact hQ)
            | (rw [markR, if_pos b6, if_pos b14, if_neg (by omega), if_neg (by omega), if_neg (by omega), if_pos (by omega)] at hQ; exact hQ)
            | (rw [markR, if_pos b6, if_pos b14, if_neg (by omega), if_neg (by omega), if_neg (by omega), if_neg (by omega), if_pos (by omega)] at hQ; exact hQ)
            | (rw [markR, if_pos b6, if_pos b14, if_neg (by omega), if_neg (by omega), if_neg (by omega), if_neg (by omega), if_neg (by omega)] at hQ; exact hQ)
        ·
          refine z_aload_n dX10_mark_77 rfl (by omega) ?_
          refine z_iload_n dX10_mark_78 rfl ?_
          refine z_callV (T := mX10_founder) (As := [_]) kX10_founder ml_X10_251 ⟨by decide, by decide⟩ dX10_mark_79 rfl rfl (Nat.le_of_ble_eq_true rfl) sh_240 ⟨by decide, rfl⟩ (Nat.le_refl _) (Nat.le_refl _) (qX10_founder hg (by omega) (by omega) (by omega) (by omega) (by omega) (by omega) (by omega) (by omega) ?_)
          refine z_ret (v := some (zi _)) dX10_mark_82 trivial (Nat.add_zero _).symm (Nat.add_zero _).symm rfl ?_
          first
            | (rw [markR, if_neg b6] at hQ; exact hQ)
            | (rw [markR, if_pos b6, if_neg b14] at hQ; exact hQ)
            | (rw [markR, if_pos b6, if_pos b14, if_pos (by omega)] at hQ; exact hQ)
            | (rw [markR, if_pos b6, if_pos b14, if_neg (by omega), if_pos (by omega)] at hQ; exact hQ)
            | (rw [markR, if_pos b6, if_pos b14, if_neg (by omega), if_neg (by omega), if_pos (by omega)] at hQ; exact hQ)
            | (rw [markR, if_pos b6, if_pos b14, if_neg (by omega), if_neg (by omega), if_neg (by omega), if_pos (by omega)] at hQ; exact hQ)
            | (rw [markR, if_pos b6, if_pos b14, if_neg (by omega), if_neg (by omega), if_neg (by omega), if_neg (by omega), if_pos (by omega)] at hQ; exact hQ)
            | (rw [markR, if_pos b6, if_pos b14, if_neg (by omega), if_neg (by omega), if_neg (by omega), if_neg (by omega), if_neg (by omega)] at hQ; exact hQ)
        ·
          refine z_aload_n dX10_mark_83 rfl (by omega) ?_
          refine z_iload_n dX10_mark_84 rfl ?_
          refine z_callV (T := mX10_chair) (As := [_]) kX10_chair ml_X10_254 ⟨by decide, by decide⟩ dX10_mark_85 rfl rfl (Nat.le_of_ble_eq_true rfl) sh_240 ⟨by decide, rfl⟩ (Nat.le_refl _) (Nat.le_refl _) (qX10_chair hg (by omega) (by omega) (by omega) (by omega) (by omega) (by omega) (by omega) (by omega) ?_)
          refine z_ret (v := some (zi _)) dX10_mark_88 trivial (Nat.add_zero _).symm (Nat.add_zero _).symm rfl ?_
          first
            | (rw [markR, if_neg b6] at hQ; exact hQ)
            | (rw [markR, if_pos b6, if_neg b14] at hQ; exact hQ)
            | (rw [markR, if_pos b6, if_pos b14, if_pos (by omega)] at hQ; exact hQ)
            | (rw [markR, if_pos b6, if_pos b14, if_neg (by omega), if_pos (by omega)] at hQ; exact hQ)
            | (rw [markR, if_pos b6, if_pos b14, if_neg (by omega), if_neg (by omega), if_pos (by omega)] at hQ; exact hQ)
            | (rw [markR, if_pos b6, if_pos b14, if_neg (by omega), if_neg (by omega), if_neg (by omega), if_pos (by omega)] at hQ; exact hQ)
            | (rw [markR, if_pos b6, if_pos b14, if_neg (by omega), if_neg (by omega), if_neg (by omega), if_neg (by omega), if_pos (by omega)] at hQ; exact hQ)
            | (rw [markR, if_pos b6, if_pos b14, if_neg (by omega), if_neg (by omega), if_neg (by omega), if_neg (by omega), if_neg (by omega)] at hQ; exact hQ)
        ·
          refine z_aload_n dX10_mark_89 rfl (by omega) ?_
          refine z_dup dX10_mark_90 rfl ?_
          refine y_getl (k' := 14) fl_X10_240 rfl dX10_mark_91 sh_240 (by decide) rfl ?_
          refine z_ldc2 dX10_mark_94 kc_X10_257 ⟨by decide, by decide⟩ ?_
          refine y_ladd dX10_mark_97 (by omega) (by omega) ?_
          refine y_putl (k' := 14) fl_X10_240 rfl dX10_mark_98 sh_240 (by decide) ⟨by omega, by omega⟩ ?_
          refine z_iconst dX10_mark_101 ⟨by decide, by decide⟩ ?_
          refine z_aload_n dX10_mark_102 rfl (by omega) ?_
          refine z_iload_n dX10_mark_103 rfl ?_
          refine z_callV (T := mX10_founder) (As := [_]) kX10_founder ml_X10_251 ⟨by decide, by decide⟩ dX10_mark_104 rfl rfl (Nat.le_of_ble_eq_true rfl) sh_240 ⟨by decide, rfl⟩ (Nat.le_refl _) (Nat.le_refl _) (qX10_founder hg (by omega) (by omega) (by show 0 ≤ zup _ _ _ _ _ _; rw [zup_same]; omega) (by show zup _ _ _ _ _ _ ≤ _; rw [zup_same]; omega) f1.2.1.1 f1.2.1.2 f2.2.1.1 f2.2.1.2 ?_)
          rw [zup_same, zup_zup, show zup h 240 14 (h 240 14 + 1000) 244 (4 * d + 1) = h 244 (4 * d + 1) from zup_ne (by omega), show zup h 240 14 (h 240 14 + 1000) 242 (3 * d + 1) = h 242 (3 * d + 1) from zup_ne (by omega)]
          refine y_imul dX10_mark_107 (by omega) (by omega) ?_
          refine z_ret (v := some (zi _)) dX10_mark_108 trivial (Nat.add_zero _).symm (Nat.add_zero _).symm rfl ?_
          first
            | (rw [markR, if_neg b6] at hQ; exact hQ)
            | (rw [markR, if_pos b6, if_neg b14] at hQ; exact hQ)
            | (rw [markR, if_pos b6, if_pos b14, if_pos (by omega)] at hQ; exact hQ)
            | (rw [markR, if_pos b6, if_pos b14, if_neg (by omega), if_pos (by omega)] at hQ; exact hQ)
            | (rw [markR, if_pos b6, if_pos b14, if_neg (by omega), if_neg (by omega), if_pos (by omega)] at hQ; exact hQ)
            | (rw [markR, if_pos b6, if_pos b14, if_neg (by omega), if_neg (by omega), if_neg (by omega), if_pos (by omega)] at hQ; exact hQ)
            | (rw [markR, if_pos b6, if_pos b14, if_neg (by omega), if_neg (by omega), if_neg (by omega), if_neg (by omega), if_pos (by omega)] at hQ; exact hQ)
            | (rw [markR, if_pos b6, if_pos b14, if_neg (by omega), if_neg (by omega), if_neg (by omega), if_neg (by omega), if_neg (by omega)] at hQ; exact hQ)
        ·
          refine z_aload_n dX10_mark_109 rfl (by omega) ?_
          refine z_dup dX10_mark_110 rfl ?_
          refine y_getl (k' := 14) fl_X10_240 rfl dX10_mark_111 sh_240 (by decide) rfl ?_
          refine z_ldc2 dX10_mark_114 kc_X10_259 ⟨by decide, by decide⟩ ?_
          refine y_ladd dX10_mark_117 (by omega) (by omega) ?_
          refine y_putl (k' := 14) fl_X10_240 rfl dX10_mark_118 sh_240 (by decide) ⟨by omega, by omega⟩ ?_
          refine z_aload_n dX10_mark_121 rfl (by omega) ?_
          refine z_iload_n dX10_mark_122 rfl ?_
          refine z_callV (T := mX10_chair) (As := [_]) kX10_chair ml_X10_254 ⟨by decide, by decide⟩ dX10_mark_123 rfl rfl (Nat.le_of_ble_eq_true rfl) sh_240 ⟨by decide, rfl⟩ (Nat.le_refl _) (Nat.le_refl _) (qX10_chair hg (by omega) (by omega) (by show 0 ≤ zup _ _ _ _ _ _; rw [zup_same]; omega) (by show zup _ _ _ _ _ _ ≤ _; rw [zup_same]; omega) f1.2.1.1 f1.2.1.2 f1.2.2.2.1 f1.2.2.2.2 ?_)
          rw [zup_same, zup_zup, show zup h 240 14 (h 240 14 + 10000) 244 (4 * d + 1) = h 244 (4 * d + 1) from zup_ne (by omega), show zup h 240 14 (h 240 14 + 10000) 244 (4 * d + 3) = h 244 (4 * d + 3) from zup_ne (by omega)]
          refine z_iload_n dX10_mark_126 rfl ?_
          refine y_iadd dX10_mark_127 (by omega) (by omega) ?_
          refine z_ret (v := some (zi _)) dX10_mark_128 trivial (Nat.add_zero _).symm (Nat.add_zero _).symm rfl ?_
          first
            | (rw [markR, if_neg b6] at hQ; exact hQ)
            | (rw [markR, if_pos b6, if_neg b14] at hQ; exact hQ)
            | (rw [markR, if_pos b6, if_pos b14, if_pos (by omega)] at hQ; exact hQ)
            | (rw [markR, if_pos b6, if_pos b14, if_neg (by omega), if_pos (by omega)] at hQ; exact hQ)
            | (rw [markR, if_pos b6, if_pos b14, if_neg (by omega), if_neg (by omega), if_pos (by omega)] at hQ; exact hQ)
            | (rw [markR, if_pos b6, if_pos b14, if_neg (by omega), if_neg (by omega), if_neg (by omega), if_pos (by omega)] at hQ; exact hQ)
            | (rw [markR, if_pos b6, if_pos b14, if_neg (by omega), if_neg (by omega), if_neg (by omega), if_neg (by omega), if_pos (by omega)] at hQ; exact hQ)
            | (rw [markR, if_pos b6, if_pos b14, if_neg (by omega), if_neg (by omega), if_neg (by omega), if_neg (by omega), if_neg (by omega)] at hQ; exact hQ)
    ·
      refine z_if_ne (tgt := 23) dX10_mark_17 (by decide) (fun q => False.elim (by omega)) (fun _ => ?_)
      refine z_ldc dX10_mark_20 kc_X10_250 ⟨by decide, by decide⟩ ?_
      refine z_ret (v := some (zi _)) dX10_mark_22 trivial (Nat.add_zero _).symm (Nat.add_zero _).symm rfl ?_
      first
        | (rw [markR, if_neg b6] at hQ; exact hQ)
        | (rw [markR, if_pos b6, if_neg b14] at hQ; exact hQ)
        | (rw [markR, if_pos b6, if_pos b14, if_pos (by omega)] at hQ; exact hQ)
        | (rw [markR, if_pos b6, if_pos b14, if_neg (by omega), if_pos (by omega)] at hQ; exact hQ)
        | (rw [markR, if_pos b6, if_pos b14, if_neg (by omega), if_neg (by omega), if_pos (by omega)] at hQ; exact hQ)
        | (rw [markR, if_pos b6, if_pos b14, if_neg (by omega), if_neg (by omega), if_neg (by omega), if_pos (by omega)] at hQ; exact hQ)
        | (rw [markR, if_pos b6, if_pos b14, if_neg (by omega), if_neg (by omega), if_neg (by omega), if_neg (by omega), if_pos (by omega)] at hQ; exact hQ)
        | (rw [markR, if_pos b6, if_pos b14, if_neg (by omega), if_neg (by omega), if_neg (by omega), if_neg (by omega), if_neg (by omega)] at hQ; exact hQ)
  ·
    refine z_if_eq (tgt := 20) dX10_mark_9 (by decide) (fun _ => ?_) (fun q => False.elim (by omega))
    refine z_ldc dX10_mark_20 kc_X10_250 ⟨by decide, by decide⟩ ?_
    refine z_ret (v := some (zi _)) dX10_mark_22 trivial (Nat.add_zero _).symm (Nat.add_zero _).symm rfl ?_
    first
      | (rw [markR, if_neg b6] at hQ; exact hQ)
      | (rw [markR, if_pos b6, if_neg b14] at hQ; exact hQ)
      | (rw [markR, if_pos b6, if_pos b14, if_pos (by omega)] at hQ; exact hQ)
      | (rw [markR, if_pos b6, if_pos b14, if_neg (by omega), if_pos (by omega)] at hQ; exact hQ)
      | (rw [markR, if_pos b6, if_pos b14, if_neg (by omega), if_neg (by omega), if_pos (by omega)] at hQ; exact hQ)
      | (rw [markR, if_pos b6, if_pos b14, if_neg (by omega), if_neg (by omega), if_neg (by omega), if_pos (by omega)] at hQ; exact hQ)
      | (rw [markR, if_pos b6, if_pos b14, if_neg (by omega), if_neg (by omega), if_neg (by omega), if_neg (by omega), if_pos (by omega)] at hQ; exact hQ)
      | (rw [markR, if_pos b6, if_pos b14, if_neg (by omega), if_neg (by omega), if_neg (by omega), if_neg (by omega), if_neg (by omega)] at hQ; exact hQ)
