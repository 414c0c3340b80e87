/-! The edge of the reference. -/
abbrev paM (h : zH) : Int → Int := fun p => h 241 (3 * p)
abbrev pbM (h : zH) : Int → Int := fun p => h 241 (3 * p + 1)
abbrev psM (h : zH) : Int → Int := fun p => h 241 (3 * p + 2)
theorem MB.ends {h : zH} (hm : MB h) : ∀ p, 0 ≤ p → p < ((h 240 1).toNat : Int) → (0 ≤ paM h p ∧ paM h p < 8) ∧ (0 ≤ pbM h p ∧ pbM h p < 8) := fun p p0 p1 => by
  have a := hm.2.1 p p0 (by omega)
  have b := hm.1.1
  show (0 ≤ h 241 (3 * p) ∧ h 241 (3 * p) < 8) ∧ (0 ≤ h 241 (3 * p + 1) ∧ h 241 (3 * p + 1) < 8)
  omega
/-- eight rounds from a room -/
def cloM (h : zH) (r k : Int) : Int := cit (paM h) (pbM h) (psM h) k (h 240 1).toNat 8 (bshl 1 r)
/-- the first from k on, among n, for which f holds -/
def fsN (f : Int → Bool) : Nat → Int → Int
  | 0, _ => -9
  | n + 1, k => if f k then k else fsN f n (k + 1)
def widF (h : zH) (d r : Int) : Int := fsN (fun k => decide (hasb (cloM h (h 244 (4 * d)) k) r)) 10 0
theorem cp_t {h : zH} {k s : Int} {i : Nat} (hc : h 241 (3 * (i : Int) + 2) ≤ k ∧ (hasb (cpass (paM h) (pbM h) (psM h) k i s) (h 241 (3 * (i : Int))) ∨ hasb (cpass (paM h) (pbM h) (psM h) k i s) (h 241 (3 * (i : Int) + 1)))) : cpass (paM h) (pbM h) (psM h) k (i + 1) s = bor (cpass (paM h) (pbM h) (psM h) k i s) (bor (bshl 1 (h 241 (3 * (i : Int)))) (bshl 1 (h 241 (3 * (i : Int) + 1)))) := if_pos hc
theorem cp_f {h : zH} {k s : Int} {i : Nat} (hc : ¬ (h 241 (3 * (i : Int) + 2) ≤ k ∧ (hasb (cpass (paM h) (pbM h) (psM h) k i s) (h 241 (3 * (i : Int))) ∨ hasb (cpass (paM h) (pbM h) (psM h) k i s) (h 241 (3 * (i : Int) + 1))))) : cpass (paM h) (pbM h) (psM h) k (i + 1) s = cpass (paM h) (pbM h) (psM h) k i s := if_neg hc
theorem lpX10_wid1 {l : Launch} {g h : zH} {Q : zQt} {d r k s e : Int} (hg : zGd g) (hm : MB h) (s0 : 0 ≤ s) (s1 : s < 256) (K : ∀ (x7 : Option zV), zW zX0 l mX10_widest ((SHL, g).1.length + zmc mX10_widest) (ztot (SHL, g) + zms mX10_widest) Q 143 [some (zr 240), some (zi d), some (zi r), some (zi k), some (zi (cpass (paM h) (pbM h) (psM h) k ((h 240 1).toNat) s)), some (zi e), some (zi (((h 240 1).toNat : Nat) : Int)), x7] [] (SHL, g) (h)) : ∀ (n i : Nat), i + n = (h 240 1).toNat → ∀ (x7 : Option zV), zW zX0 l mX10_widest ((SHL, g).1.length + zmc mX10_widest) (ztot (SHL, g) + zms mX10_widest) Q 31 [some (zr 240), some (zi d), some (zi r), some (zi k), some (zi (cpass (paM h) (pbM h) (psM h) k i s)), some (zi e), some (zi (i : Int)), x7] [] (SHL, g) (h) := by
  obtain ⟨m0, m1, m2, m3, m4, m5, m6, m7⟩ := hm.1
  intro n
  induction n with
  | zero =>
    intro i hi x7
    have e9 : i = (h 240 1).toNat := by omega
    subst e9
    refine z_iload dX10_widest_31 rfl ?_
    refine z_aload_n dX10_widest_33 rfl (by omega) ?_
    refine y_geti (k' := 1) fl_X10_73 rfl dX10_widest_34 sh_240 (by decide) rfl ?_
    refine z_icmp_ge (tgt := 143) dX10_widest_37 (by decide) (fun _ => ?_) (fun q => False.elim (by omega))
    exact K _
  | succ n ih =>
    intro i hi x7
    have f1 := hm.2.1 i (by omega) (by omega)
    have f2 := cpass_r (ps := psM h) (k := k) hm.ends s0 s1 i (by omega)
    refine z_iload dX10_widest_31 rfl ?_
    refine z_aload_n dX10_widest_33 rfl (by omega) ?_
    refine y_geti (k' := 1) fl_X10_73 rfl dX10_widest_34 sh_240 (by decide) rfl ?_
    refine z_icmp_ge (tgt := 143) dX10_widest_37 (by decide) (fun q => False.elim (by omega)) (fun _ => ?_)
    refine z_aload_n dX10_widest_40 rfl (by omega) ?_
    refine y_geta (k' := 2) fl_X10_13 rfl dX10_widest_41 sh_240 (by decide) (gf_240_2 hg) ?_
    refine z_iconst dX10_widest_44 ⟨by decide, by decide⟩ ?_
    refine z_iload dX10_widest_45 rfl ?_
    refine y_imul dX10_widest_47 (by omega) (by omega) ?_
    refine z_iconst dX10_widest_48 ⟨by decide, by decide⟩ ?_
    refine y_iadd dX10_widest_49 (by omega) (by omega) ?_
    refine z_iaload dX10_widest_50 sh_241 (by omega) (by omega) rfl ?_
    refine z_iload_n dX10_widest_51 rfl ?_
    refine z_icmp_gt (tgt := 95) dX10_widest_52 (by decide) (fun c52 => ?_) (fun c52 => ?_)
    ·
      refine z_iconst dX10_widest_95 ⟨by decide, by decide⟩ ?_
      refine z_istore dX10_widest_96 (by decide) rfl lss_8_7 ?_
      refine z_iload dX10_widest_98 rfl ?_
      refine z_iload dX10_widest_100 rfl ?_
      refine z_if_eq (tgt := 133) dX10_widest_102 (by decide) (fun _ => ?_) (fun q => False.elim (by omega))
      refine z_iconst dX10_widest_133 ⟨by decide, by decide⟩ ?_
      refine z_ior dX10_widest_134 ?_
      refine z_istore dX10_widest_135 (by decide) rfl lss_8_4 ?_
      refine y_iinc dX10_widest_137 (by decide) rfl rfl (by omega) (by omega) lss_8_6 ?_
      refine z_goto (tgt := 31) dX10_widest_140 (by decide) ?_
      have q := ih (i + 1) (by omega)
      first
        | (rw [cp_t ⟨by omega, Or.inl b66⟩] at q; exact q _)
        | (rw [cp_t ⟨by omega, Or.inr b85⟩] at q; exact q _)
        | (rw [cp_f (fun z => z.2.elim b66 b85)] at q; rw [bor_0 (by unfold r32; omega)]; exact q _)
        | (rw [cp_f (fun z => by have := z.1; omega)] at q; rw [bor_0 (by unfold r32; omega)]; exact q _)
    ·
      refine z_iload dX10_widest_55 rfl ?_
      refine z_aload_n dX10_widest_57 rfl (by omega) ?_
      refine y_geta (k' := 2) fl_X10_13 rfl dX10_widest_58 sh_240 (by decide) (gf_240_2 hg) ?_
      refine z_iconst dX10_widest_61 ⟨by decide, by decide⟩ ?_
      refine z_iload dX10_widest_62 rfl ?_
      refine y_imul dX10_widest_64 (by omega) (by omega) ?_
      refine z_iaload dX10_widest_65 sh_241 (by omega) (by omega) rfl ?_
      refine z_callS (T := mX10_has) (As := [_, _]) kX10_has ml_X10_171 ⟨by decide, by decide⟩ dX10_widest_66 rfl rfl (Nat.le_of_ble_eq_true rfl) (Nat.le_refl _) (Nat.le_refl _) (qX10_has (fun b66 => ?_) (fun b66 => ?_))
      ·
        refine z_if_ne (tgt := 91) dX10_widest_69 (by decide) (fun _ => ?_) (fun q => False.elim (by omega))
        refine z_iconst dX10_widest_91 ⟨by decide, by decide⟩ ?_
        refine z_goto (tgt := 96) dX10_widest_92 (by decide) ?_
        refine z_istore dX10_widest_96 (by decide) rfl lss_8_7 ?_
        refine z_iload dX10_widest_98 rfl ?_
        refine z_iload dX10_widest_100 rfl ?_
        refine z_if_eq (tgt := 133) dX10_widest_102 (by decide) (fun q => False.elim (by omega)) (fun _ => ?_)
        refine z_iconst dX10_widest_105 ⟨by decide, by decide⟩ ?_
        refine z_aload_n dX10_widest_106 rfl (by omega) ?_
        refine y_geta (k' := 2) fl_X10_13 rfl dX10_widest_107 sh_240 (by decide) (gf_240_2 hg) ?_
        refine z_iconst dX10_widest_110 ⟨by decide, by decide⟩ ?_
        refine z_iload dX10_widest_111 rfl ?_
        refine y_imul dX10_widest_113 (by omega) (by omega) ?_
        refine z_iaload dX10_widest_114 sh_241 (by omega) (by omega) rfl ?_
        refine z_ishl dX10_widest_115 ?_
        refine z_iconst dX10_widest_116 ⟨by decide, by decide⟩ ?_
        refine z_aload_n dX10_widest_117 rfl (by omega) ?_
        refine y_geta (k' := 2) fl_X10_13 rfl dX10_widest_118 sh_240 (by decide) (gf_240_2 hg) ?_
        refine z_iconst dX10_widest_121 ⟨by decide, by decide⟩ ?_
        refine z_iload dX10_widest_122 rfl ?_
        refine y_imul dX10_widest_124 (by omega) (by omega) ?_
        refine z_iconst dX10_widest_125 ⟨by decide, by decide⟩ ?_
        refine y_iadd dX10_widest_126 (by omega) (by omega) ?_
        refine z_iaload dX10_widest_127 sh_241 (by omega) (by omega) rfl ?_
        refine z_ishl dX10_widest_128 ?_
        refine z_ior dX10_widest_129 ?_
        refine z_goto (tgt := 134) dX10_widest_130 (by decide) ?_
        refine z_ior dX10_widest_134 ?_
        refine z_istore dX10_widest_135 (by decide) rfl lss_8_4 ?_
        refine y_iinc dX10_widest_137 (by decide) rfl rfl (by omega) (by omega) lss_8_6 ?_
        refine z_goto (tgt := 31) dX10_widest_140 (by decide) ?_
        have q := ih (i + 1) (by omega)
        first
          | (rw [cp_t ⟨by omega, Or.inl b66⟩] at q; exact q _)
          | (rw [cp_t ⟨by omega, Or.inr b85⟩] at q; exact q _)
          | (rw [cp_f (fun z => z.2.elim b66 b85)] at q; rw [bor_0 (by unfold r32; omega)]; exact q _)
          | (rw [cp_f (fun z => by have := z.1; omega)] at q; rw [bor_0 (by unfold r32; omega)]; exact q _)
      ·
        refine z_if_ne (tgt := 91) dX10_widest_69 (by decide) (fun q => False.elim (by omega)) (fun _ => ?_)
        refine z_iload dX10_widest_72 rfl ?_
        refine z_aload_n dX10_widest_74 rfl (by omega) ?_
        refine y_geta (k' := 2) fl_X10_13 rfl dX10_widest_75 sh_240 (by decide) (gf_240_2 hg) ?_
        refine z_iconst dX10_widest_78 ⟨by decide, by decide⟩ ?_
        refine z_iload dX10_widest_79 rfl ?_
        refine y_imul dX10_widest_81 (by omega) (by omega) ?_
        refine z_iconst dX10_widest_82 ⟨by decide, by decide⟩ ?_
        refine y_iadd dX10_widest_83 (by omega) (by omega) ?_
        refine z_iaload dX10_widest_84 sh_241 (by omega) (by omega) rfl ?_
        refine z_callS (T := mX10_has) (As := [_, _]) kX10_has ml_X10_171 ⟨by decide, by decide⟩ dX10_widest_85 rfl rfl (Nat.le_of_ble_eq_true rfl) (Nat.le_refl _) (Nat.le_refl _) (qX10_has (fun b85 => ?_) (fun b85 => ?_))
        ·
          refine z_if_eq (tgt := 95) dX10_widest_88 (by decide) (fun q => False.elim (by omega)) (fun _ => ?_)
          refine z_iconst dX10_widest_91 ⟨by decide, by decide⟩ ?_
          refine z_goto (tgt := 96) dX10_widest_92 (by decide) ?_
          refine z_istore dX10_widest_96 (by decide) rfl lss_8_7 ?_
          refine z_iload dX10_widest_98 rfl ?_
          refine z_iload dX10_widest_100 rfl ?_
          refine z_if_eq (tgt := 133) dX10_widest_102 (by decide) (fun q => False.elim (by omega)) (fun _ => ?_)
          refine z_iconst dX10_widest_105 ⟨by decide, by decide⟩ ?_
          refine z_aload_n dX10_widest_106 rfl (by omega) ?_
          refine y_geta (k' := 2) fl_X10_13 rfl dX10_widest_107 sh_240 (by decide) (gf_240_2 hg) ?_
          refine z_iconst dX10_widest_110 ⟨by decide, by decide⟩ ?_
          refine z_iload dX10_widest_111 rfl ?_
          refine y_imul dX10_widest_113 (by omega) (by omega) ?_
          refine z_iaload dX10_widest_114 sh_241 (by omega) (by omega) rfl ?_
          refine z_ishl dX10_widest_115 ?_
          refine z_iconst dX10_widest_116 ⟨by decide, by decide⟩ ?_
          refine z_aload_n dX10_widest_117 rfl (by omega) ?_
          refine y_geta (k' := 2) fl_X10_13 rfl dX10_widest_118 sh_240 (by decide) (gf_240_2 hg) ?_
          refine z_iconst dX10_widest_121 ⟨by decide, by decide⟩ ?_
          refine z_iload dX10_widest_122 rfl ?_
          refine y_imul dX10_widest_124 (by omega) (by omega) ?_
          refine z_iconst dX10_widest_125 ⟨by decide, by decide⟩ ?_
          refine y_iadd dX10_widest_126 (by omega) (by omega) ?_
          refine z_iaload dX10_widest_127 sh_241 (by omega) (by omega) rfl ?_
          refine z_ishl dX10_widest_128 ?_
          refine z_ior dX10_widest_129 ?_
          refine z_goto (tgt := 134) dX10_widest_130 (by decide) ?_
          refine z_ior dX10_widest_134 ?_
          refine z_istore dX10_widest_135 (by decide) rfl lss_8_4 ?_
          refine y_iinc dX10_widest_137 (by decide) rfl rfl (by omega) (by omega) lss_8_6 ?_
          refine z_goto (tgt := 31) dX10_widest_140 (by decide) ?_
          have q := ih (i + 1) (by omega)
          first
            | (rw [cp_t ⟨by omega, Or.inl b66⟩] at q; exact q _)
            | (rw [cp_t ⟨by omega, Or.inr b85⟩] at q; exact q _)
            | (rw [cp_f (fun z => z.2.elim b66 b85)] at q; rw [bor_0 (by unfold r32; omega)]; exact q _)
            | (rw [cp_f (fun z => by have := z.1; omega)] at q; rw [bor_0 (by unfold r32; omega)]; exact q _)
        ·
          refine z_if_eq (tgt := 95) dX10_widest_88 (by decide) (fun _ => ?_) (fun q => False.elim (by omega))
          refine z_iconst dX10_widest_95 ⟨by decide, by decide⟩ ?_
          refine z_istore dX10_widest_96 (by decide) rfl lss_8_7 ?_
          refine z_iload dX10_widest_98 rfl ?_
          refine z_iload dX10_widest_100 rfl ?_
          refine z_if_eq (tgt := 133) dX10_widest_102 (by decide) (fun _ => ?_) (fun q => False.elim (by omega))
          refine z_iconst dX10_widest_133 ⟨by decide, by decide⟩ ?_
          refine z_ior dX10_widest_134 ?_
          refine z_istore dX10_widest_135 (by decide) rfl lss_8_4 ?_
          refine y_iinc dX10_widest_137 (by decide) rfl rfl (by omega) (by omega) lss_8_6 ?_
          refine z_goto (tgt := 31) dX10_widest_140 (by decide) ?_
          have q := ih (i + 1) (by omega)
          first
            | (rw [cp_t ⟨by omega, Or.inl b66⟩] at q; exact q _)
            | (rw [cp_t ⟨by omega, Or.inr b85⟩] at q; exact q _)
            | (rw [cp_f (fun z => z.2.elim b66 b85)] at q; rw [bor_0 (by unfold r32; omega)]; exact q _)
            | (rw [cp_f (fun z => by have := z.1; omega)] at q; rw [bor_0 (by unfold r32; omega)]; exact q _)
theorem lpX10_wid2 {l : Launch} {g h : zH} {Q : zQt} {d r k s : Int} (hg : zGd g) (hm : MB h) (s0 : 0 ≤ s) (s1 : s < 256) (K : ∀ (x6 x7 : Option zV), zW zX0 l mX10_widest ((SHL, g).1.length + zmc mX10_widest) (ztot (SHL, g) + zms mX10_widest) Q 149 [some (zr 240), some (zi d), some (zi r), some (zi k), some (zi (cit (paM h) (pbM h) (psM h) k (h 240 1).toNat (8) s)), some (zi ((8 : Nat) : Int)), x6, x7] [] (SHL, g) (h)) : ∀ (n i : Nat), i + n = 8 → ∀ (x6 x7 : Option zV), zW zX0 l mX10_widest ((SHL, g).1.length + zmc mX10_widest) (ztot (SHL, g) + zms mX10_widest) Q 21 [some (zr 240), some (zi d), some (zi r), some (zi k), some (zi (cit (paM h) (pbM h) (psM h) k (h 240 1).toNat i s)), some (zi (i : Int)), x6, x7] [] (SHL, g) (h) := by
  intro n
  induction n with
  | zero =>
    intro i hi x6 x7
    have e9 : i = 8 := by omega
    subst e9
    refine z_iload dX10_widest_21 rfl ?_
    refine z_bipush dX10_widest_23 ⟨by decide, by decide⟩ ?_
    refine z_icmp_ge (tgt := 149) dX10_widest_25 (by decide) (fun _ => ?_) (fun q => False.elim (by omega))
    exact K _ _
  | succ n ih =>
    intro i hi x6 x7
    have f2 := cit_r (ps := psM h) (k := k) hm.ends s0 s1 i
    refine z_iload dX10_widest_21 rfl ?_
    refine z_bipush dX10_widest_23 ⟨by decide, by decide⟩ ?_
    refine z_icmp_ge (tgt := 149) dX10_widest_25 (by decide) (fun q => False.elim (by omega)) (fun _ => ?_)
    refine z_iconst dX10_widest_28 ⟨by decide, by decide⟩ ?_
    refine z_istore dX10_widest_29 (by decide) rfl lss_8_6 ?_
    refine lpX10_wid1 (s := cit (paM h) (pbM h) (psM h) k (h 240 1).toNat i s) hg hm f2.1 f2.2 (fun x7 => ?_) _ 0 (Nat.zero_add _) _
    refine y_iinc dX10_widest_143 (by decide) rfl rfl (by omega) (by omega) lss_8_5 ?_
    refine z_goto (tgt := 21) dX10_widest_146 (by decide) ?_
    exact ih (i + 1) (by omega) _ _
theorem bshl8 : ∀ k : Int, 0 ≤ k → k < 8 → 0 ≤ bshl 1 k ∧ bshl 1 k < 256 := by
  intro k k0 k1
  rw [bshl_pw k k0 (by omega)]
  have := pw_succ k.toNat
  have a := pw8 (n := ((k.toNat + 1 : Nat) : Int)) (by omega)
  have b := pw_pos k
  rw [show ((k.toNat : Nat) : Int) = k by omega] at this
  omega
theorem lpX10_wid3 {l : Launch} {g h : zH} {Q : zQt} {d r : Int} (hg : zGd g) (hm : MB h) (d0 : 0 ≤ d) (d1 : d < h 240 3) : ∀ (n i : Nat) (x4 x5 x6 x7 : Option zV), i + n = 10 → Q (some (zi (fsN (fun k => decide (hasb (cloM h (h 244 (4 * d)) k) r)) n i))) (SHL, g) h → zW zX0 l mX10_widest ((SHL, g).1.length + zmc mX10_widest) (ztot (SHL, g) + zms mX10_widest) Q 2 [some (zr 240), some (zi d), some (zi r), some (zi (i : Int)), x4, x5, x6, x7] [] (SHL, g) h := by
  obtain ⟨m0, m1, m2, m3, m4, m5, m6, m7⟩ := hm.1
  have f1 := nb0 hm.2.2.2.2.1 d0 d1
  have f2 := bshl8 (h 244 (4 * d)) (by omega) (by omega)
  intro n
  induction n with
  | zero =>
    intro i x4 x5 x6 x7 hi hQ
    refine z_iload_n dX10_widest_2 rfl ?_
    refine z_bipush dX10_widest_3 ⟨by decide, by decide⟩ ?_
    refine z_icmp_ge (tgt := 166) dX10_widest_5 (by decide) (fun _ => ?_) (fun q => False.elim (by omega))
    refine z_bipush dX10_widest_166 ⟨by decide, by decide⟩ ?_
    refine z_ret (v := some (zi _)) dX10_widest_168 trivial (Nat.add_zero _).symm (Nat.add_zero _).symm rfl ?_
    exact hQ
  | succ n ih =>
    intro i x4 x5 x6 x7 hi hQ
    refine z_iload_n dX10_widest_2 rfl ?_
    refine z_bipush dX10_widest_3 ⟨by decide, by decide⟩ ?_
    refine z_icmp_ge (tgt := 166) dX10_widest_5 (by decide) (fun q => False.elim (by omega)) (fun _ => ?_)
    refine z_iconst dX10_widest_8 ⟨by decide, by decide⟩ ?_
    refine z_aload_n dX10_widest_9 rfl (by omega) ?_
    refine z_iload_n dX10_widest_10 rfl ?_
    refine z_iconst dX10_widest_11 ⟨by decide, by decide⟩ ?_
    refine z_callV (T := mX10_of) (As := [_, _]) kX10_of ml_X10_76 ⟨by decide, by decide⟩ dX10_widest_12 rfl rfl (Nat.le_of_ble_eq_true rfl) sh_240 ⟨by decide, rfl⟩ (Nat.le_refl _) (Nat.le_refl _) (qX10_of hg (by omega) (by omega) (by omega) (by omega) (by rw [Int.add_zero]) ?_)
    refine z_ishl dX10_widest_15 ?_
    refine z_istore dX10_widest_16 (by decide) rfl lss_8_4 ?_
    refine z_iconst dX10_widest_18 ⟨by decide, by decide⟩ ?_
    refine z_istore dX10_widest_19 (by decide) rfl lss_8_5 ?_
    refine lpX10_wid2 (s := bshl 1 (h 244 (4 * d))) hg hm f2.1 f2.2 (fun x6 x7 => ?_) _ 0 (Nat.zero_add _) _ _
    refine z_iload dX10_widest_149 rfl ?_
    refine z_iload_n dX10_widest_151 rfl ?_
    refine z_callS (T := mX10_has) (As := [_, _]) kX10_has ml_X10_171 ⟨by decide, by decide⟩ dX10_widest_152 rfl rfl (Nat.le_of_ble_eq_true rfl) (Nat.le_refl _) (Nat.le_refl _) (qX10_has (fun b152 => ?_) (fun b152 => ?_))
    ·
      refine z_if_eq (tgt := 160) dX10_widest_155 (by decide) (fun q => False.elim (by omega)) (fun _ => ?_)
      refine z_iload_n dX10_widest_158 rfl ?_
      refine z_ret (v := some (zi _)) dX10_widest_159 trivial (Nat.add_zero _).symm (Nat.add_zero _).symm rfl ?_
      have e9 : fsN (fun k => decide (hasb (cloM h (h 244 (4 * d)) k) r)) (n + 1) i = i := if_pos (decide_eq_true b152)
      rw [e9] at hQ
      exact hQ
    ·
      refine z_if_eq (tgt := 160) dX10_widest_155 (by decide) (fun _ => ?_) (fun q => False.elim (by omega))
      refine y_iinc dX10_widest_160 (by decide) rfl rfl (by omega) (by omega) lss_8_3 ?_
      refine z_goto (tgt := 2) dX10_widest_163 (by decide) ?_
      have e9 : fsN (fun k => decide (hasb (cloM h (h 244 (4 * d)) k) r)) (n + 1) i = fsN (fun k => decide (hasb (cloM h (h 244 (4 * d)) k) r)) n ((i : Int) + 1) := if_neg (fun z => b152 (of_decide_eq_true z))
      rw [e9] at hQ
      exact ih (i + 1) _ _ _ _ (by omega) hQ
theorem qX10_widest {l : Launch} {g h : zH} {Q : zQt} (hg : zGd g) (hm : MB h) {d r : Int} (d0 : 0 ≤ d) (d1 : d < h 240 3) (hQ : Q (some (zi (widF h d r))) (SHL, g) h) : zC l mX10_widest [zr 240, zi d, zi r] (SHL, g) h Q := by
  refine z_method kX10_widest.1 rfl (Nat.le_of_ble_eq_true rfl) (fun hok hh => ?_)
  refine z_iconst dX10_widest_0 ⟨by decide, by decide⟩ ?_
  refine z_istore_n dX10_widest_1 (by decide) rfl lss_8_3 ?_
  exact lpX10_wid3 hg hm d0 d1 10 0 _ _ _ _ rfl hQ
theorem fsN_r {f : Int → Bool} : ∀ (n : Nat) (k : Int), 0 ≤ k → fsN f n k = -9 ∨ (k ≤ fsN f n k ∧ fsN f n k < k + n) := by
  intro n
  induction n with
  | zero => intro k _; left; rfl
  | succ n ih =>
    intro k k0
    unfold fsN
    split
    · right; omega
    · have := ih (k + 1) (by omega); omega
def edgeF (h : zH) (d r : Int) : Int := if 0 ≤ d ∧ d < h 240 3 then (if 0 ≤ r ∧ r < h 240 0 then (if r = h 244 (4 * d) then 60 else if widF h d r = -9 ∨ h 242 (3 * d) - h 244 (4 * d + 1) - widF h d r < 0 then -9 else min 60 (h 242 (3 * d) - h 244 (4 * d + 1) - widF h d r)) else -1) else -1
theorem qX10_edge {l : Launch} {g h : zH} {Q : zQt} (hg : zGd g) (hm : MB h) {d r : Int} (hQ : Q (some (zi (edgeF h d r))) (SHL, g) h) : zC l mX10_edge [zr 240, zi d, zi r] (SHL, g) h Q := by
  refine z_method kX10_edge.1 rfl (Nat.le_of_ble_eq_true rfl) (fun hok hh => ?_)
  obtain ⟨m0, m1, m2, m3, m4, m5, m6, m7⟩ := hm.1
  refine z_aload_n dX10_edge_0 rfl (by omega) ?_
  refine z_iload_n dX10_edge_1 rfl ?_
  refine z_callV (T := mX10_isDirector) (As := [_]) kX10_isDirector ml_X10_179 ⟨by decide, by decide⟩ dX10_edge_2 rfl rfl (Nat.le_of_ble_eq_true rfl) sh_240 ⟨by decide, rfl⟩ (Nat.le_refl _) (Nat.le_refl _) (qX10_isDirector hg hm (fun b2 => ?_) (fun b2 => ?_))
  ·
    refine z_if_eq (tgt := 16) dX10_edge_5 (by decide) (fun q => False.elim (by omega)) (fun _ => ?_)
    refine z_aload_n dX10_edge_8 rfl (by omega) ?_
    refine z_iload_n dX10_edge_9 rfl ?_
    refine z_callV (T := mX10_isRoom) (As := [_]) kX10_isRoom ml_X10_202 ⟨by decide, by decide⟩ dX10_edge_10 rfl rfl (Nat.le_of_ble_eq_true rfl) sh_240 ⟨by decide, rfl⟩ (Nat.le_refl _) (Nat.le_refl _) (qX10_isRoom hg hm (fun b10 => ?_) (fun b10 => ?_))
    ·
      refine z_if_ne (tgt := 18) dX10_edge_13 (by decide) (fun _ => ?_) (fun q => False.elim (by omega))
      have f1 := nb0 hm.2.2.2.2.1 b2.1 b2.2
      have f2 := hm.2.2.1 d b2.1 b2.2
      have f3 : widF h d r = -9 ∨ (0 ≤ widF h d r ∧ widF h d r < 0 + (10 : Nat)) := fsN_r 10 0 (by omega)
      refine z_iload_n dX10_edge_18 rfl ?_
      refine z_aload_n dX10_edge_19 rfl (by omega) ?_
      refine z_iload_n dX10_edge_20 rfl ?_
      refine z_iconst dX10_edge_21 ⟨by decide, by decide⟩ ?_
      refine z_callV (T := mX10_of) (As := [_, _]) kX10_of ml_X10_76 ⟨by decide, by decide⟩ dX10_edge_22 rfl rfl (Nat.le_of_ble_eq_true rfl) sh_240 ⟨by decide, rfl⟩ (Nat.le_refl _) (Nat.le_refl _) (qX10_of hg (by omega) (by omega) (by omega) (by omega) (by rw [Int.add_zero]) ?_)
      refine z_icmp_ne (tgt := 31) dX10_edge_25 (by decide) (fun c25 => ?_) (fun c25 => ?_)
      ·
        refine z_aload_n dX10_edge_31 rfl (by omega) ?_
        refine z_iload_n dX10_edge_32 rfl ?_
        refine z_iload_n dX10_edge_33 rfl ?_
        refine z_callV (T := mX10_widest) (As := [_, _]) kX10_widest ml_X10_224 ⟨by decide, by decide⟩ dX10_edge_34 rfl rfl (Nat.le_of_ble_eq_true rfl) sh_240 ⟨by decide, rfl⟩ (Nat.le_refl _) (Nat.le_refl _) (qX10_widest hg hm b2.1 b2.2 ?_)
        refine z_istore_n dX10_edge_37 (by decide) rfl lss_5_3 ?_
        refine z_aload_n dX10_edge_38 rfl (by omega) ?_
        refine z_iload_n dX10_edge_39 rfl ?_
        refine z_callV (T := mX10_strength) (As := [_]) kX10_strength ml_X10_160 ⟨by decide, by decide⟩ dX10_edge_40 rfl rfl (Nat.le_of_ble_eq_true rfl) sh_240 ⟨by decide, rfl⟩ (Nat.le_refl _) (Nat.le_refl _) (qX10_strength hg (by omega) (by omega) ?_)
        refine z_aload_n dX10_edge_43 rfl (by omega) ?_
        refine z_iload_n dX10_edge_44 rfl ?_
        refine z_iconst dX10_edge_45 ⟨by decide, by decide⟩ ?_
        refine z_callV (T := mX10_of) (As := [_, _]) kX10_of ml_X10_76 ⟨by decide, by decide⟩ dX10_edge_46 rfl rfl (Nat.le_of_ble_eq_true rfl) sh_240 ⟨by decide, rfl⟩ (Nat.le_refl _) (Nat.le_refl _) (qX10_of hg (by omega) (by omega) (by omega) (by omega) rfl ?_)
        refine y_isub dX10_edge_49 (by omega) (by omega) ?_
        refine z_iload_n dX10_edge_50 rfl ?_
        refine y_isub dX10_edge_51 (by omega) (by omega) ?_
        refine z_istore dX10_edge_52 (by decide) rfl lss_5_4 ?_
        refine z_iload_n dX10_edge_54 rfl ?_
        refine z_bipush dX10_edge_55 ⟨by decide, by decide⟩ ?_
        refine z_icmp_eq (tgt := 65) dX10_edge_57 (by decide) (fun c57 => ?_) (fun c57 => ?_)
        ·
          refine z_bipush dX10_edge_65 ⟨by decide, by decide⟩ ?_
          refine z_goto (tgt := 84) dX10_edge_67 (by decide) ?_
          refine z_ret (v := some (zi _)) dX10_edge_84 trivial (Nat.add_zero _).symm (Nat.add_zero _).symm rfl ?_
          rw [edgeF, if_pos b2, if_pos b10, if_neg (by omega)] at hQ
          first
            | (rw [if_pos (by omega)] at hQ; exact hQ)
            | (rw [if_neg (by omega), show min 60 (h 242 (3 * d) - h 244 (4 * d + 1) - widF h d r) = 60 by omega] at hQ; exact hQ)
            | (rw [if_neg (by omega), show min 60 (h 242 (3 * d) - h 244 (4 * d + 1) - widF h d r) = h 242 (3 * d) - h 244 (4 * d + 1) - widF h d r by omega] at hQ; exact hQ)
        ·
          refine z_iload dX10_edge_60 rfl ?_
          refine z_if_ge (tgt := 70) dX10_edge_62 (by decide) (fun c62 => ?_) (fun c62 => ?_)
          ·
            refine z_iload dX10_edge_70 rfl ?_
            refine z_bipush dX10_edge_72 ⟨by decide, by decide⟩ ?_
            refine z_icmp_le (tgt := 82) dX10_edge_74 (by decide) (fun c74 => ?_) (fun c74 => ?_)
            ·
              refine z_iload dX10_edge_82 rfl ?_
              refine z_ret (v := some (zi _)) dX10_edge_84 trivial (Nat.add_zero _).symm (Nat.add_zero _).symm rfl ?_
              rw [edgeF, if_pos b2, if_pos b10, if_neg (by omega)] at hQ
              first
                | (rw [if_pos (by omega)] at hQ; exact hQ)
                | (rw [if_neg (by omega), show min 60 (h 242 (3 * d) - h 244 (4 * d + 1) - widF h d r) = 60 by omega] at hQ; exact hQ)
                | (rw [if_neg (by omega), show min 60 (h 242 (3 * d) - h 244 (4 * d + 1) - widF h d r) = h 242 (3 * d) - h 244 (4 * d + 1) - widF h d r by omega] at hQ; exact hQ)
            ·
              refine z_bipush dX10_edge_77 ⟨by decide, by decide⟩ ?_
              refine z_goto (tgt := 84) dX10_edge_79 (by decide) ?_
              refine z_ret (v := some (zi _)) dX10_edge_84 trivial (Nat.add_zero _).symm (Nat.add_zero _).symm rfl ?_
              rw [edgeF, if_pos b2, if_pos b10, if_neg (by omega)] at hQ
              first
                | (rw [if_pos (by omega)] at hQ; exact hQ)
                | (rw [if_neg (by omega), show min 60 (h 242 (3 * d) - h 244 (4 * d + 1) - widF h d r) = 60 by omega] at hQ; exact hQ)
                | (rw [if_neg (by omega), show min 60 (h 242 (3 * d) - h 244 (4 * d + 1) - widF h d r) = h 242 (3 * d) - h 244 (4 * d + 1) - widF h d r by omega] at hQ; exact hQ)
          ·
            refine z_bipush dX10_edge_65 ⟨by decide, by decide⟩ ?_
            refine z_goto (tgt := 84) dX10_edge_67 (by decide) ?_
            refine z_ret (v := some (zi _)) dX10_edge_84 trivial (Nat.add_zero _).symm (Nat.add_zero _).symm rfl ?_
            rw [edgeF, if_pos b2, if_pos b10, if_neg (by omega)] at hQ
            first
              | (rw [if_pos (by omega)] at hQ; exact hQ)
              | (rw [if_neg (by omega), show min 60 (h 242 (3 * d) - h 244 (4 * d + 1) - widF h d r) = 60 by omega] at hQ; exact hQ)
              | (rw [if_neg (by omega), show min 60 (h 242 (3 * d) - h 244 (4 * d + 1) - widF h d r) = h 242 (3 * d) - h 244 (4 * d + 1) - widF h d r by omega] at hQ; exact hQ)
      ·
        refine z_bipush dX10_edge_28 ⟨by decide, by decide⟩ ?_
        refine z_ret (v := some (zi _)) dX10_edge_30 trivial (Nat.add_zero _).symm (Nat.add_zero _).symm rfl ?_
        first
          | (rw [edgeF, if_pos b2, if_pos b10, if_pos (by omega)] at hQ; exact hQ)
    ·
      refine z_if_ne (tgt := 18) dX10_edge_13 (by decide) (fun q => False.elim (by omega)) (fun _ => ?_)
      refine z_iconst dX10_edge_16 ⟨by decide, by decide⟩ ?_
      refine z_ret (v := some (zi _)) dX10_edge_17 trivial (Nat.add_zero _).symm (Nat.add_zero _).symm rfl ?_
      first
        | (rw [edgeF, if_neg b2] at hQ; exact hQ)
        | (rw [edgeF, if_pos b2, if_neg b10] at hQ; exact hQ)
  ·
    refine z_if_eq (tgt := 16) dX10_edge_5 (by decide) (fun _ => ?_) (fun q => False.elim (by omega))
    refine z_iconst dX10_edge_16 ⟨by decide, by decide⟩ ?_
    refine z_ret (v := some (zi _)) dX10_edge_17 trivial (Nat.add_zero _).symm (Nat.add_zero _).symm rfl ?_
    first
      | (rw [edgeF, if_neg b2] at hQ; exact hQ)
      | (rw [edgeF, if_pos b2, if_neg b10] at hQ; exact hQ)
