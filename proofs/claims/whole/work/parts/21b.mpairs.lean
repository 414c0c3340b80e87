/-! The pairs of the reference. -/
abbrev fitB (h : zH) : Int → Int → Bool := fun a b => decide (h 244 (4 * b + 1) ≤ h 242 (3 * a) ∧ h 244 (4 * a + 1) ≤ h 242 (3 * b))
theorem fitM_har {h : zH} {f : Int → Int} {n : Nat} {a b : Int} : fitM (har h 256 n f) a b ↔ fitM h a b := Iff.rfl
theorem lpX10_pl1 {l : Launch} {g h : zH} {Q : zQt} {s a v0 : Int} {t : Int → Int} (hg : zGd g) (m2 : 0 ≤ h 240 3 ∧ h 240 3 ≤ 6) (s0 : 0 < s) (s1 : s < 64) (a0 : 0 ≤ a) (a1 : a < 6) (ha : hasb s a) (hv : 0 ≤ v0 ∧ v0 ≤ s) (ht : ∀ x, 0 ≤ x → x < s → 0 ≤ t x ∧ t x ≤ x) (K : ∀ (x4 : Option zV), zW zX0 l mX10_layPairs ((SHL, g).1.length + zmc mX10_layPairs) (ztot (SHL, g) + zms mX10_layPairs) Q 146 [some (zr 240), some (zi s), some (zi a), some (zi (a + 1 + (((h 240 3 - (a + 1)).toNat : Nat) : Int))), x4] [] (SHL, g) (har h 256 64 (fu t s (pacc (fitB h) t s a v0 ((h 240 3 - (a + 1)).toNat))))) : ∀ (n i : Nat), i + n = (h 240 3 - (a + 1)).toNat → ∀ (x4 : Option zV), zW zX0 l mX10_layPairs ((SHL, g).1.length + zmc mX10_layPairs) (ztot (SHL, g) + zms mX10_layPairs) Q 65 [some (zr 240), some (zi s), some (zi a), some (zi (a + 1 + (i : Int))), x4] [] (SHL, g) (har h 256 64 (fu t s (pacc (fitB h) t s a v0 i))) := by
  intro n
  induction n with
  | zero =>
    intro i hi x4
    have e9 : i = (h 240 3 - (a + 1)).toNat := by omega
    subst e9
    refine z_iload_n dX10_layPairs_65 rfl ?_
    refine z_aload_n dX10_layPairs_66 rfl (by omega) ?_
    refine y_geti (k' := 3) fl_X10_66 rfl dX10_layPairs_67 sh_240 (by decide) (har_ne (by decide)) ?_
    refine z_icmp_ge (tgt := 146) dX10_layPairs_70 (by decide) (fun _ => ?_) (fun q => False.elim (by omega))
    exact K _
  | succ n ih =>
    intro i hi x4
    have c1 := clr_r s a (by omega) s1 a0 a1
    have c1l := c1.2.2.1 ha
    have c2 := clr_r (clr s a) (a + 1 + (i : Int)) c1.1 (by omega) (by omega) (by omega)
    have hx := ht (clr (clr s a) (a + 1 + (i : Int))) c2.1 (by omega)
    have fa := pacc_r (fit := fitB h) (by omega) s1 a0 a1 (Or.inl ha) hv ht i (by omega)
    refine z_iload_n dX10_layPairs_65 rfl ?_
    refine z_aload_n dX10_layPairs_66 rfl (by omega) ?_
    refine y_geti (k' := 3) fl_X10_66 rfl dX10_layPairs_67 sh_240 (by decide) (har_ne (by decide)) ?_
    refine z_icmp_ge (tgt := 146) dX10_layPairs_70 (by decide) (fun q => False.elim (by omega)) (fun _ => ?_)
    refine z_iload_n dX10_layPairs_73 rfl ?_
    refine z_iload_n dX10_layPairs_74 rfl ?_
    refine z_callS (T := mX10_has) (As := [_, _]) kX10_has ml_X10_171 ⟨by decide, by decide⟩ dX10_layPairs_75 rfl rfl (Nat.le_of_ble_eq_true rfl) (Nat.le_refl _) (Nat.le_refl _) (qX10_has (fun b75 => ?_) (fun b75 => ?_))
    ·
      refine z_if_eq (tgt := 140) dX10_layPairs_78 (by decide) (fun q => False.elim (by omega)) (fun _ => ?_)
      refine z_aload_n dX10_layPairs_81 rfl (by omega) ?_
      refine z_iload_n dX10_layPairs_82 rfl ?_
      refine z_iload_n dX10_layPairs_83 rfl ?_
      refine z_callV (T := mX10_fit) (As := [_, _]) kX10_fit ml_X10_227 ⟨by decide, by decide⟩ dX10_layPairs_84 rfl rfl (Nat.le_of_ble_eq_true rfl) sh_240 ⟨by decide, rfl⟩ (Nat.le_refl _) (Nat.le_refl _) (qX10_fit hg (by omega) (by omega) (by omega) (by omega) (fun b84 => ?_) (fun b84 => ?_))
      ·
        refine z_if_eq (tgt := 140) dX10_layPairs_87 (by decide) (fun q => False.elim (by omega)) (fun _ => ?_)
        refine z_iconst dX10_layPairs_90 ⟨by decide, by decide⟩ ?_
        refine z_aload_n dX10_layPairs_91 rfl (by omega) ?_
        refine y_geta (k' := 33) fl_X10_63 rfl dX10_layPairs_92 sh_240 (by decide) (gf_240_33 hg) ?_
        refine z_iload_n dX10_layPairs_95 rfl ?_
        refine z_iconst dX10_layPairs_96 ⟨by decide, by decide⟩ ?_
        refine z_iload_n dX10_layPairs_97 rfl ?_
        refine z_ishl dX10_layPairs_98 ?_
        refine z_iconst dX10_layPairs_99 ⟨by decide, by decide⟩ ?_
        refine z_ixor dX10_layPairs_100 ?_
        refine z_iand dX10_layPairs_101 ?_
        refine z_iconst dX10_layPairs_102 ⟨by decide, by decide⟩ ?_
        refine z_iload_n dX10_layPairs_103 rfl ?_
        refine z_ishl dX10_layPairs_104 ?_
        refine z_iconst dX10_layPairs_105 ⟨by decide, by decide⟩ ?_
        refine z_ixor dX10_layPairs_106 ?_
        refine z_iand dX10_layPairs_107 ?_
        refine z_iaload dX10_layPairs_108 sh_256 (show 0 ≤ clr (clr s a) (a + 1 + (i : Int)) by omega) (show clr (clr s a) (a + 1 + (i : Int)) < ((64 : Nat) : Int) by omega) (show har h 256 64 (fu t s (pacc (fitB h) t s a v0 i)) 256 (clr (clr s a) (a + 1 + (i : Int))) = t (clr (clr s a) (a + 1 + (i : Int))) from (har_at (by omega) (by omega)).trans (fu_ne (by omega))) ?_
        refine y_iadd dX10_layPairs_109 (by omega) (by omega) ?_
        refine z_istore dX10_layPairs_110 (by decide) rfl lss_5_4 ?_
        refine z_aload_n dX10_layPairs_112 rfl (by omega) ?_
        refine y_geta (k' := 33) fl_X10_63 rfl dX10_layPairs_113 sh_240 (by decide) (gf_240_33 hg) ?_
        refine z_iload_n dX10_layPairs_116 rfl ?_
        refine z_iload dX10_layPairs_117 rfl ?_
        refine z_aload_n dX10_layPairs_119 rfl (by omega) ?_
        refine y_geta (k' := 33) fl_X10_63 rfl dX10_layPairs_120 sh_240 (by decide) (gf_240_33 hg) ?_
        refine z_iload_n dX10_layPairs_123 rfl ?_
        refine z_iaload dX10_layPairs_124 sh_256 (by omega) (by omega) ((har_at (by omega) (by omega)).trans (fu_at _ _ _)) ?_
        refine z_icmp_le (tgt := 133) dX10_layPairs_125 (by decide) (fun c125 => ?_) (fun c125 => ?_)
        ·
          refine z_aload_n dX10_layPairs_133 rfl (by omega) ?_
          refine y_geta (k' := 33) fl_X10_63 rfl dX10_layPairs_134 sh_240 (by decide) (gf_240_33 hg) ?_
          refine z_iload_n dX10_layPairs_137 rfl ?_
          refine z_iaload dX10_layPairs_138 sh_256 (by omega) (by omega) ((har_at (by omega) (by omega)).trans (fu_at _ _ _)) ?_
          refine z_iastore dX10_layPairs_139 sh_256 (by omega) (by omega) ?_
          refine y_iinc dX10_layPairs_140 (by decide) rfl rfl (by omega) (by omega) lss_5_3 ?_
          refine z_goto (tgt := 65) dX10_layPairs_143 (by decide) ?_
          have q := ih (i + 1) (by omega)
          rw [show a + 1 + (((i + 1 : Nat)) : Int) = a + 1 + (i : Int) + 1 by omega] at q
          first
            | (rw [har_up (by omega) (by omega), fu_fu]
               rw [pacc_t ⟨b75, decide_eq_true (show h 244 (4 * (a + 1 + (i : Int)) + 1) ≤ h 242 (3 * a) ∧ h 244 (4 * a + 1) ≤ h 242 (3 * (a + 1 + (i : Int))) from b84)⟩] at q
               first
                 | (rw [show max (pacc (fitB h) t s a v0 i) (1 + t (clr (clr s a) (a + 1 + (i : Int)))) = 1 + t (clr (clr s a) (a + 1 + (i : Int))) by omega] at q; exact q _)
                 | (rw [show max (pacc (fitB h) t s a v0 i) (1 + t (clr (clr s a) (a + 1 + (i : Int)))) = pacc (fitB h) t s a v0 i by omega] at q; exact q _))
            | (rw [pacc_f (fun z => b84' (of_decide_eq_true z.2))] at q; exact q _)
            | (rw [pacc_f (fun z => b75 z.1)] at q; exact q _)
        ·
          refine z_iload dX10_layPairs_128 rfl ?_
          refine z_goto (tgt := 139) dX10_layPairs_130 (by decide) ?_
          refine z_iastore dX10_layPairs_139 sh_256 (by omega) (by omega) ?_
          refine y_iinc dX10_layPairs_140 (by decide) rfl rfl (by omega) (by omega) lss_5_3 ?_
          refine z_goto (tgt := 65) dX10_layPairs_143 (by decide) ?_
          have q := ih (i + 1) (by omega)
          rw [show a + 1 + (((i + 1 : Nat)) : Int) = a + 1 + (i : Int) + 1 by omega] at q
          first
            | (rw [har_up (by omega) (by omega), fu_fu]
               rw [pacc_t ⟨b75, decide_eq_true (show h 244 (4 * (a + 1 + (i : Int)) + 1) ≤ h 242 (3 * a) ∧ h 244 (4 * a + 1) ≤ h 242 (3 * (a + 1 + (i : Int))) from b84)⟩] at q
               first
                 | (rw [show max (pacc (fitB h) t s a v0 i) (1 + t (clr (clr s a) (a + 1 + (i : Int)))) = 1 + t (clr (clr s a) (a + 1 + (i : Int))) by omega] at q; exact q _)
                 | (rw [show max (pacc (fitB h) t s a v0 i) (1 + t (clr (clr s a) (a + 1 + (i : Int)))) = pacc (fitB h) t s a v0 i by omega] at q; exact q _))
            | (rw [pacc_f (fun z => b84' (of_decide_eq_true z.2))] at q; exact q _)
            | (rw [pacc_f (fun z => b75 z.1)] at q; exact q _)
      ·
        have b84' : ¬ (h 244 (4 * (a + 1 + (i : Int)) + 1) ≤ h 242 (3 * a) ∧ h 244 (4 * a + 1) ≤ h 242 (3 * (a + 1 + (i : Int)))) := b84
        refine z_if_eq (tgt := 140) dX10_layPairs_87 (by decide) (fun _ => ?_) (fun q => False.elim (by omega))
        refine y_iinc dX10_layPairs_140 (by decide) rfl rfl (by omega) (by omega) lss_5_3 ?_
        refine z_goto (tgt := 65) dX10_layPairs_143 (by decide) ?_
        have q := ih (i + 1) (by omega)
        rw [show a + 1 + (((i + 1 : Nat)) : Int) = a + 1 + (i : Int) + 1 by omega] at q
        first
          | (rw [har_up (by omega) (by omega), fu_fu]
             rw [pacc_t ⟨b75, decide_eq_true (show h 244 (4 * (a + 1 + (i : Int)) + 1) ≤ h 242 (3 * a) ∧ h 244 (4 * a + 1) ≤ h 242 (3 * (a + 1 + (i : Int))) from b84)⟩] at q
             first
               | (rw [show max (pacc (fitB h) t s a v0 i) (1 + t (clr (clr s a) (a + 1 + (i : Int)))) = 1 + t (clr (clr s a) (a + 1 + (i : Int))) by omega] at q; exact q _)
               | (rw [show max (pacc (fitB h) t s a v0 i) (1 + t (clr (clr s a) (a + 1 + (i : Int)))) = pacc (fitB h) t s a v0 i by omega] at q; exact q _))
          | (rw [pacc_f (fun z => b84' (of_decide_eq_true z.2))] at q; exact q _)
          | (rw [pacc_f (fun z => b75 z.1)] at q; exact q _)
    ·
      refine z_if_eq (tgt := 140) dX10_layPairs_78 (by decide) (fun _ => ?_) (fun q => False.elim (by omega))
      refine y_iinc dX10_layPairs_140 (by decide) rfl rfl (by omega) (by omega) lss_5_3 ?_
      refine z_goto (tgt := 65) dX10_layPairs_143 (by decide) ?_
      have q := ih (i + 1) (by omega)
      rw [show a + 1 + (((i + 1 : Nat)) : Int) = a + 1 + (i : Int) + 1 by omega] at q
      first
        | (rw [har_up (by omega) (by omega), fu_fu]
           rw [pacc_t ⟨b75, decide_eq_true (show h 244 (4 * (a + 1 + (i : Int)) + 1) ≤ h 242 (3 * a) ∧ h 244 (4 * a + 1) ≤ h 242 (3 * (a + 1 + (i : Int))) from b84)⟩] at q
           first
             | (rw [show max (pacc (fitB h) t s a v0 i) (1 + t (clr (clr s a) (a + 1 + (i : Int)))) = 1 + t (clr (clr s a) (a + 1 + (i : Int))) by omega] at q; exact q _)
             | (rw [show max (pacc (fitB h) t s a v0 i) (1 + t (clr (clr s a) (a + 1 + (i : Int)))) = pacc (fitB h) t s a v0 i by omega] at q; exact q _))
        | (rw [pacc_f (fun z => b84' (of_decide_eq_true z.2))] at q; exact q _)
        | (rw [pacc_f (fun z => b75 z.1)] at q; exact q _)
theorem lpX10_pl0 {l : Launch} {g h : zH} {Q : zQt} {t : Int → Int} (hg : zGd g) (m2 : 0 ≤ h 240 3 ∧ h 240 3 ≤ 6) (K : ∀ (x4 : Option zV), zW zX0 l mX10_layPairs ((SHL, g).1.length + zmc mX10_layPairs) (ztot (SHL, g) + zms mX10_layPairs) Q 146 [some (zr 240), some (zi 0), some (zi 0), some (zi (1 + (((h 240 3 - 1).toNat : Nat) : Int))), x4] [] (SHL, g) (har h 256 64 t)) : ∀ (n i : Nat), i + n = (h 240 3 - 1).toNat → ∀ (x4 : Option zV), zW zX0 l mX10_layPairs ((SHL, g).1.length + zmc mX10_layPairs) (ztot (SHL, g) + zms mX10_layPairs) Q 65 [some (zr 240), some (zi 0), some (zi 0), some (zi (1 + (i : Int))), x4] [] (SHL, g) (har h 256 64 t) := by
  intro n
  induction n with
  | zero =>
    intro i hi x4
    have e9 : i = (h 240 3 - 1).toNat := by omega
    subst e9
    refine z_iload_n dX10_layPairs_65 rfl ?_
    refine z_aload_n dX10_layPairs_66 rfl (by omega) ?_
    refine y_geti (k' := 3) fl_X10_66 rfl dX10_layPairs_67 sh_240 (by decide) (har_ne (by decide)) ?_
    refine z_icmp_ge (tgt := 146) dX10_layPairs_70 (by decide) (fun _ => ?_) (fun q => False.elim (by omega))
    exact K _
  | succ n ih =>
    intro i hi x4
    refine z_iload_n dX10_layPairs_65 rfl ?_
    refine z_aload_n dX10_layPairs_66 rfl (by omega) ?_
    refine y_geti (k' := 3) fl_X10_66 rfl dX10_layPairs_67 sh_240 (by decide) (har_ne (by decide)) ?_
    refine z_icmp_ge (tgt := 146) dX10_layPairs_70 (by decide) (fun q => False.elim (by omega)) (fun _ => ?_)
    refine z_iload_n dX10_layPairs_73 rfl ?_
    refine z_iload_n dX10_layPairs_74 rfl ?_
    refine z_callS (T := mX10_has) (As := [_, _]) kX10_has ml_X10_171 ⟨by decide, by decide⟩ dX10_layPairs_75 rfl rfl (Nat.le_of_ble_eq_true rfl) (Nat.le_refl _) (Nat.le_refl _) (qX10_has (fun b75 => ?_) (fun b75 => ?_))
    ·
      exact absurd b75 (has_hi 0 (1 + (i : Int)) (by omega) (by omega) (by omega) (by omega) (by have := pw_pos (1 + (i : Int)); omega))
    ·
      refine z_if_eq (tgt := 140) dX10_layPairs_78 (by decide) (fun _ => ?_) (fun q => False.elim (by omega))
      refine y_iinc dX10_layPairs_140 (by decide) rfl rfl (by omega) (by omega) lss_5_3 ?_
      refine z_goto (tgt := 65) dX10_layPairs_143 (by decide) ?_
      have q := ih (i + 1) (by omega)
      rw [show 1 + (((i + 1 : Nat)) : Int) = 1 + (i : Int) + 1 by omega] at q
      exact q _
theorem lwX10_low {l : Launch} {g H : zH} {Q : zQt} {s : Int} {x3 x4 : Option zV} (s0 : 0 < s) (s1 : s < 64) (K : zW zX0 l mX10_layPairs ((SHL, g).1.length + zmc mX10_layPairs) (ztot (SHL, g) + zms mX10_layPairs) Q 39 [some (zr 240), some (zi s), some (zi (low s)), x3, x4] [] (SHL, g) H) :
    ∀ (n i : Nat), i + n = 6 → fsN (fun k => decide (hasb s k)) n i = low s → zW zX0 l mX10_layPairs ((SHL, g).1.length + zmc mX10_layPairs) (ztot (SHL, g) + zms mX10_layPairs) Q 21 [some (zr 240), some (zi s), some (zi (i : Int)), x3, x4] [] (SHL, g) H := by
  have l9 := low_ok s s0 s1
  intro n
  induction n with
  | zero =>
    intro i hi hl
    have : (-9 : Int) = low s := hl
    omega
  | succ n ih =>
    intro i hi hl
    refine z_iload_n dX10_layPairs_21 rfl ?_
    refine z_if_eq (tgt := 39) dX10_layPairs_22 (by decide) (fun q => False.elim (by omega)) (fun _ => ?_)
    refine z_iload_n dX10_layPairs_25 rfl ?_
    refine z_iload_n dX10_layPairs_26 rfl ?_
    refine z_callS (T := mX10_has) (As := [_, _]) kX10_has ml_X10_171 ⟨by decide, by decide⟩ dX10_layPairs_27 rfl rfl (Nat.le_of_ble_eq_true rfl) (Nat.le_refl _) (Nat.le_refl _) (qX10_has (fun b27 => ?_) (fun b27 => ?_))
    ·
      have e9 : fsN (fun k => decide (hasb s k)) (n + 1) i = i := if_pos (decide_eq_true b27)
      rw [e9] at hl
      refine z_if_ne (tgt := 39) dX10_layPairs_30 (by decide) (fun _ => ?_) (fun q => False.elim (by omega))
      rw [hl]
      exact K
    ·
      have e9 : fsN (fun k => decide (hasb s k)) (n + 1) i = fsN (fun k => decide (hasb s k)) n ((i : Int) + 1) := if_neg (fun z => b27 (of_decide_eq_true z))
      rw [e9] at hl
      refine z_if_ne (tgt := 39) dX10_layPairs_30 (by decide) (fun q => False.elim (by omega)) (fun _ => ?_)
      refine y_iinc dX10_layPairs_33 (by decide) rfl rfl (by omega) (by omega) lss_5_2 ?_
      refine z_goto (tgt := 21) dX10_layPairs_36 (by decide) ?_
      exact ih (i + 1) (by omega) hl
theorem lpX10_pl2 {l : Launch} {g h : zH} {Q : zQt} (hg : zGd g) (m2 : 0 ≤ h 240 3 ∧ h 240 3 ≤ 6) (K : ∀ t, TabN (fitB h) (h 240 3) t (pw (h 240 3)) → Q none (SHL, g) (har h 256 64 t)) :
    ∀ (n i : Nat) (t : Int → Int) (x2 x3 x4 : Option zV), i + n = (pw (h 240 3)).toNat → TabN (fitB h) (h 240 3) t i → zW zX0 l mX10_layPairs ((SHL, g).1.length + zmc mX10_layPairs) (ztot (SHL, g) + zms mX10_layPairs) Q 2 [some (zr 240), some (zi (i : Int)), x2, x3, x4] [] (SHL, g) (har h 256 64 t) := by
  have e1 := bshl_pw (h 240 3) (by omega) (by omega)
  have p1 := pw_le (n := h 240 3) (by omega)
  have p2 := pw_pos (h 240 3)
  intro n
  induction n with
  | zero =>
    intro i t x2 x3 x4 hi ht
    refine z_iload_n dX10_layPairs_2 rfl ?_
    refine z_iconst dX10_layPairs_3 ⟨by decide, by decide⟩ ?_
    refine z_aload_n dX10_layPairs_4 rfl (by omega) ?_
    refine y_geti (k' := 3) fl_X10_66 rfl dX10_layPairs_5 sh_240 (by decide) (har_ne (by decide)) ?_
    refine z_ishl dX10_layPairs_8 ?_
    refine z_icmp_ge (tgt := 152) dX10_layPairs_9 (by decide) (fun _ => ?_) (fun q => False.elim (by omega))
    refine z_ret (v := none) dX10_layPairs_152 trivial (Nat.add_zero _).symm (Nat.add_zero _).symm rfl ?_
    rw [show (i : Int) = pw (h 240 3) by omega] at ht
    exact K t ht
  | succ n ih =>
    intro i t x2 x3 x4 hi ht
    by_cases hz : i = 0
    ·
      subst hz
      refine z_iload_n dX10_layPairs_2 rfl ?_
      refine z_iconst dX10_layPairs_3 ⟨by decide, by decide⟩ ?_
      refine z_aload_n dX10_layPairs_4 rfl (by omega) ?_
      refine y_geti (k' := 3) fl_X10_66 rfl dX10_layPairs_5 sh_240 (by decide) (har_ne (by decide)) ?_
      refine z_ishl dX10_layPairs_8 ?_
      refine z_icmp_ge (tgt := 152) dX10_layPairs_9 (by decide) (fun q => False.elim (by omega)) (fun _ => ?_)
      refine z_aload_n dX10_layPairs_12 rfl (by omega) ?_
      refine y_geta (k' := 33) fl_X10_63 rfl dX10_layPairs_13 sh_240 (by decide) (gf_240_33 hg) ?_
      refine z_iload_n dX10_layPairs_16 rfl ?_
      refine z_iconst dX10_layPairs_17 ⟨by decide, by decide⟩ ?_
      refine z_iastore dX10_layPairs_18 sh_256 (by omega) (by omega) ?_
      refine z_iconst dX10_layPairs_19 ⟨by decide, by decide⟩ ?_
      refine z_istore_n dX10_layPairs_20 (by decide) rfl lss_5_2 ?_
      rw [har_up (by omega) (by omega)]
      refine z_iload_n dX10_layPairs_21 rfl ?_
      refine z_if_eq (tgt := 39) dX10_layPairs_22 (by decide) (fun _ => ?_) (fun q => False.elim (by omega))
      refine z_iload_n dX10_layPairs_39 rfl ?_
      refine z_if_eq (tgt := 61) dX10_layPairs_40 (by decide) (fun _ => ?_) (fun q => False.elim (by omega))
      refine z_iload_n dX10_layPairs_61 rfl ?_
      refine z_iconst dX10_layPairs_62 ⟨by decide, by decide⟩ ?_
      refine y_iadd dX10_layPairs_63 (by omega) (by omega) ?_
      refine z_istore_n dX10_layPairs_64 (by decide) rfl lss_5_3 ?_
      have K2 := lpX10_pl0 (l := l) (h := h) (t := fu t ((0 : Nat) : Int) 0) (Q := Q) hg m2 (fun x4 => by
        refine y_iinc dX10_layPairs_146 (by decide) rfl rfl (by omega) (by omega) lss_5_1 ?_
        refine z_goto (tgt := 2) dX10_layPairs_149 (by decide) ?_
        refine ih (0 + 1) (fu t ((0 : Nat) : Int) 0) _ _ _ (by omega) ?_
        exact TabN_fu m2.2 (by omega) (by omega) ht (show (0 : Int) = pval (fitB h) (h 240 3) t ((0 : Nat) : Int) from (if_pos rfl).symm) ⟨Int.le_refl 0, Int.le_refl 0⟩) _ 0 (Nat.zero_add _)
      exact K2 _
    ·
      have s0 : 0 < (i : Int) := by omega
      have s1 : (i : Int) < 64 := by omega
      have l9 := low_ok i s0 s1
      have c1 := clr_r i (low i) (by omega) s1 l9.1 l9.2.1
      have c1l := c1.2.2.1 l9.2.2
      have hta := fun x (x0 : 0 ≤ x) (x1 : x < (i : Int)) => (ht x x0 x1).2
      have hc := hta (clr i (low i)) c1.1 c1l
      refine z_iload_n dX10_layPairs_2 rfl ?_
      refine z_iconst dX10_layPairs_3 ⟨by decide, by decide⟩ ?_
      refine z_aload_n dX10_layPairs_4 rfl (by omega) ?_
      refine y_geti (k' := 3) fl_X10_66 rfl dX10_layPairs_5 sh_240 (by decide) (har_ne (by decide)) ?_
      refine z_ishl dX10_layPairs_8 ?_
      refine z_icmp_ge (tgt := 152) dX10_layPairs_9 (by decide) (fun q => False.elim (by omega)) (fun _ => ?_)
      refine z_aload_n dX10_layPairs_12 rfl (by omega) ?_
      refine y_geta (k' := 33) fl_X10_63 rfl dX10_layPairs_13 sh_240 (by decide) (gf_240_33 hg) ?_
      refine z_iload_n dX10_layPairs_16 rfl ?_
      refine z_iconst dX10_layPairs_17 ⟨by decide, by decide⟩ ?_
      refine z_iastore dX10_layPairs_18 sh_256 (by omega) (by omega) ?_
      refine z_iconst dX10_layPairs_19 ⟨by decide, by decide⟩ ?_
      refine z_istore_n dX10_layPairs_20 (by decide) rfl lss_5_2 ?_
      rw [har_up (by omega) (by omega)]
      refine lwX10_low s0 s1 ?_ 6 0 rfl rfl
      refine z_iload_n dX10_layPairs_39 rfl ?_
      refine z_if_eq (tgt := 61) dX10_layPairs_40 (by decide) (fun q => False.elim (by omega)) (fun _ => ?_)
      refine z_aload_n dX10_layPairs_43 rfl (by omega) ?_
      refine y_geta (k' := 33) fl_X10_63 rfl dX10_layPairs_44 sh_240 (by decide) (gf_240_33 hg) ?_
      refine z_iload_n dX10_layPairs_47 rfl ?_
      refine z_aload_n dX10_layPairs_48 rfl (by omega) ?_
      refine y_geta (k' := 33) fl_X10_63 rfl dX10_layPairs_49 sh_240 (by decide) (gf_240_33 hg) ?_
      refine z_iload_n dX10_layPairs_52 rfl ?_
      refine z_iconst dX10_layPairs_53 ⟨by decide, by decide⟩ ?_
      refine z_iload_n dX10_layPairs_54 rfl ?_
      refine z_ishl dX10_layPairs_55 ?_
      refine z_iconst dX10_layPairs_56 ⟨by decide, by decide⟩ ?_
      refine z_ixor dX10_layPairs_57 ?_
      refine z_iand dX10_layPairs_58 ?_
      refine z_iaload dX10_layPairs_59 sh_256 (show 0 ≤ clr i (low i) by omega) (show clr i (low i) < ((64 : Nat) : Int) by omega) (show har h 256 64 (fu t i 0) 256 (clr i (low i)) = t (clr i (low i)) from (har_at (by omega) (by omega)).trans (fu_ne (by omega))) ?_
      refine z_iastore dX10_layPairs_60 sh_256 (by omega) (by omega) ?_
      refine z_iload_n dX10_layPairs_61 rfl ?_
      refine z_iconst dX10_layPairs_62 ⟨by decide, by decide⟩ ?_
      refine y_iadd dX10_layPairs_63 (by omega) (by omega) ?_
      refine z_istore_n dX10_layPairs_64 (by decide) rfl lss_5_3 ?_
      rw [har_up (by omega) (by omega), fu_fu]
      have K2 := lpX10_pl1 (l := l) (h := h) (s := i) (a := low i) (v0 := t (clr i (low i))) (t := t) (Q := Q) hg m2 s0 s1 l9.1 l9.2.1 l9.2.2 (by omega) hta (fun x4 => by
        refine y_iinc dX10_layPairs_146 (by decide) rfl rfl (by omega) (by omega) lss_5_1 ?_
        refine z_goto (tgt := 2) dX10_layPairs_149 (by decide) ?_
        refine ih (i + 1) _ _ _ _ (by omega) ?_
        have hr := pacc_r (fit := fitB h) (v0 := t (clr i (low i))) (by omega) s1 l9.1 l9.2.1 (Or.inl l9.2.2) (by omega) hta (h 240 3 - (low i + 1)).toNat (by omega)
        exact TabN_fu m2.2 (by omega) s1 ht (show _ = pval (fitB h) (h 240 3) t i from (if_neg (by omega)).symm) hr) _ 0 (Nat.zero_add _)
      rw [show low (i : Int) + 1 + ((0 : Nat) : Int) = low i + 1 by omega] at K2
      exact K2 _
theorem qX10_layPairs {l : Launch} {g h : zH} {Q : zQt} (hg : zGd g) (m2 : 0 ≤ h 240 3 ∧ h 240 3 ≤ 6) (hQ : ∀ t, TabN (fitB h) (h 240 3) t (pw (h 240 3)) → Q none (SHL, g) (har h 256 64 t)) : zC l mX10_layPairs [zr 240] (SHL, g) h Q := by
  refine z_method kX10_layPairs.1 rfl (Nat.le_of_ble_eq_true rfl) (fun hok hh => ?_)
  refine z_iconst dX10_layPairs_0 ⟨by decide, by decide⟩ ?_
  refine z_istore_n dX10_layPairs_1 (by decide) rfl lss_5_1 ?_
  have K2 := lpX10_pl2 (l := l) hg m2 hQ (pw (h 240 3)).toNat 0 (h 256) none none none (Nat.zero_add _) (fun s s0 s1 => by omega)
  rw [har_self] at K2
  exact K2
noncomputable abbrev tabM (h : zH) : Int → Int := tabC (fitB h) (h 240 3)
noncomputable def pairF (h : zH) (d : Int) : Int := if d = -1 then tabM h (pw (h 240 3) - 1) else if 0 ≤ d ∧ d < h 240 3 then pfC (fitB h) (tabM h) (h 240 3) d (h 240 3).toNat 0 (pw (h 240 3) - 1) else -1
theorem mate_step {f : Int → Bool} {N m : Nat} {a : Int} (hm : m < N) : fsN f (N - m) (a + m + 1) = if f (a + m + 1) then a + m + 1 else fsN f (N - (m + 1)) (a + (m + 1 : Nat) + 1) := by
  rw [show N - m = (N - (m + 1)) + 1 by omega]
  show (if _ then _ else _) = _
  rw [show a + ((m + 1 : Nat) : Int) + 1 = a + m + 1 + 1 by omega]
theorem lpX10_mate {l : Launch} {g h : zH} {Q : zQt} {d left a : Int} {t : Int → Int} (hg : zGd g) (m2 : 0 ≤ h 240 3 ∧ h 240 3 ≤ 6) (ht : TabN (fitB h) (h 240 3) t (pw (h 240 3))) (l0 : 0 ≤ left) (l1 : left < pw (h 240 3)) (a0 : 0 ≤ a) (a1 : a < h 240 3)
    (K : ∀ x5 x6, zW zX0 l mX10_pair ((SHL, g).1.length + zmc mX10_pair) (ztot (SHL, g) + zms mX10_pair) Q 152 [some (zr 240), some (zi d), some (zi left), some (zi a), some (zi (mateC (fitB h) (tabM h) (h 240 3) left a)), x5, x6] [] (SHL, g) (har h 256 64 t)) :
    ∀ (m : Nat) (x6 : Option zV), (m : Int) + a + 1 ≤ h 240 3 → zW zX0 l mX10_pair ((SHL, g).1.length + zmc mX10_pair) (ztot (SHL, g) + zms mX10_pair) Q 70 [some (zr 240), some (zi d), some (zi left), some (zi a), some (zi (fsN (fun b => decide (hasb left b) && (fitB h a b && decide (1 + tabM h (clr (clr left a) b) = tabM h left))) ((h 240 3 - (a + 1)).toNat - m) (a + m + 1))), some (zi (a + m)), x6] [] (SHL, g) (har h 256 64 t) := by
  have p1 := pw_le (n := h 240 3) (by omega)
  intro m
  induction m with
  | zero =>
    intro x6 hm
    rw [show a + ((0 : Nat) : Int) + 1 = a + 1 by omega, Nat.sub_zero]
    refine z_iload dX10_pair_70 rfl ?_
    refine z_iload_n dX10_pair_72 rfl ?_
    refine z_icmp_le (tgt := 152) dX10_pair_73 (by decide) (fun _ => ?_) (fun q => False.elim (by omega))
    exact K _ _
  | succ m ih =>
    intro x6 hm
    have c1 := clr_r left a l0 (by omega) a0 (by omega)
    have c2 := clr_r (clr left a) (a + (m + 1 : Nat)) c1.1 (by omega) (by omega) (by omega)
    have hx := ht (clr (clr left a) (a + (m + 1 : Nat))) c2.1 (by omega)
    have hy := ht left l0 l1
    have ex : t (clr (clr left a) (a + (m + 1 : Nat))) = tabM h (clr (clr left a) (a + (m + 1 : Nat))) := tabC_eq m2.2 ht c2.1 (show clr (clr left a) (a + (m + 1 : Nat)) < pw (h 240 3) by omega)
    have ey : t left = tabM h left := tabC_eq m2.2 ht l0 l1
    have ms := mate_step (f := (fun b => decide (hasb left b) && (fitB h a b && decide (1 + tabM h (clr (clr left a) b) = tabM h left)))) (N := (h 240 3 - (a + 1)).toNat) (m := m) (a := a) (by omega)
    rw [show a + (m : Int) + 1 = a + ((m + 1 : Nat) : Int) by omega] at ms
    refine z_iload dX10_pair_70 rfl ?_
    refine z_iload_n dX10_pair_72 rfl ?_
    refine z_icmp_le (tgt := 152) dX10_pair_73 (by decide) (fun q => False.elim (by omega)) (fun _ => ?_)
    refine z_iload_n dX10_pair_76 rfl ?_
    refine z_iload dX10_pair_77 rfl ?_
    refine z_callS (T := mX10_has) (As := [_, _]) kX10_has ml_X10_171 ⟨by decide, by decide⟩ dX10_pair_79 rfl rfl (Nat.le_of_ble_eq_true rfl) (Nat.le_refl _) (Nat.le_refl _) (qX10_has (fun b79 => ?_) (fun b79 => ?_))
    ·
      refine z_if_eq (tgt := 129) dX10_pair_82 (by decide) (fun q => False.elim (by omega)) (fun _ => ?_)
      refine z_aload_n dX10_pair_85 rfl (by omega) ?_
      refine z_iload_n dX10_pair_86 rfl ?_
      refine z_iload dX10_pair_87 rfl ?_
      refine z_callV (T := mX10_fit) (As := [_, _]) kX10_fit ml_X10_227 ⟨by decide, by decide⟩ dX10_pair_89 rfl rfl (Nat.le_of_ble_eq_true rfl) sh_240 ⟨by decide, rfl⟩ (Nat.le_refl _) (Nat.le_refl _) (qX10_fit hg (by omega) (by omega) (by omega) (by omega) (fun b89 => ?_) (fun b89 => ?_))
      ·
        refine z_if_eq (tgt := 129) dX10_pair_92 (by decide) (fun q => False.elim (by omega)) (fun _ => ?_)
        refine z_iconst dX10_pair_95 ⟨by decide, by decide⟩ ?_
        refine z_aload_n dX10_pair_96 rfl (by omega) ?_
        refine y_geta (k' := 33) fl_X10_63 rfl dX10_pair_97 sh_240 (by decide) (gf_240_33 hg) ?_
        refine z_iload_n dX10_pair_100 rfl ?_
        refine z_iconst dX10_pair_101 ⟨by decide, by decide⟩ ?_
        refine z_iload_n dX10_pair_102 rfl ?_
        refine z_ishl dX10_pair_103 ?_
        refine z_iconst dX10_pair_104 ⟨by decide, by decide⟩ ?_
        refine z_ixor dX10_pair_105 ?_
        refine z_iand dX10_pair_106 ?_
        refine z_iconst dX10_pair_107 ⟨by decide, by decide⟩ ?_
        refine z_iload dX10_pair_108 rfl ?_
        refine z_ishl dX10_pair_110 ?_
        refine z_iconst dX10_pair_111 ⟨by decide, by decide⟩ ?_
        refine z_ixor dX10_pair_112 ?_
        refine z_iand dX10_pair_113 ?_
        refine z_iaload dX10_pair_114 sh_256 (show 0 ≤ clr (clr left a) (a + (m + 1 : Nat)) by omega) (show clr (clr left a) (a + (m + 1 : Nat)) < ((64 : Nat) : Int) by omega) (show har h 256 64 t 256 (clr (clr left a) (a + (m + 1 : Nat))) = tabM h (clr (clr left a) (a + (m + 1 : Nat))) from (har_at (by omega) (by omega)).trans ex) ?_
        refine y_iadd dX10_pair_115 (by omega) (by omega) ?_
        refine z_aload_n dX10_pair_116 rfl (by omega) ?_
        refine y_geta (k' := 33) fl_X10_63 rfl dX10_pair_117 sh_240 (by decide) (gf_240_33 hg) ?_
        refine z_iload_n dX10_pair_120 rfl ?_
        refine z_iaload dX10_pair_121 sh_256 (by omega) (by omega) ((har_at (by omega) (by omega)).trans ey) ?_
        refine z_icmp_ne (tgt := 129) dX10_pair_122 (by decide) (fun c122 => ?_) (fun c122 => ?_)
        ·
          refine z_iconst dX10_pair_129 ⟨by decide, by decide⟩ ?_
          refine z_istore dX10_pair_130 (by decide) rfl lss_7_6 ?_
          refine z_iload dX10_pair_132 rfl ?_
          refine z_if_eq (tgt := 142) dX10_pair_134 (by decide) (fun _ => ?_) (fun q => False.elim (by omega))
          refine z_iload dX10_pair_142 rfl ?_
          refine z_istore dX10_pair_144 (by decide) rfl lss_7_4 ?_
          refine y_iinc dX10_pair_146 (by decide) rfl rfl (by omega) (by omega) lss_7_5 ?_
          refine z_goto (tgt := 70) dX10_pair_149 (by decide) ?_
          have q := fun x6 => ih x6 (by omega)
          rw [show a + (m : Int) + 1 = a + ((m + 1 : Nat) : Int) by omega, ms] at q
          rw [show a + ((m + 1 : Nat) : Int) + -1 = a + (m : Int) by omega]
          first
            | (have key : (decide (hasb left (a + ((m + 1 : Nat) : Int))) && (fitB h a (a + ((m + 1 : Nat) : Int)) && decide (1 + tabM h (clr (clr left a) (a + ((m + 1 : Nat) : Int))) = tabM h left))) = true := Bool.and_eq_true_iff.mpr ⟨decide_eq_true b79, Bool.and_eq_true_iff.mpr ⟨decide_eq_true (show h 244 (4 * (a + ((m + 1 : Nat) : Int)) + 1) ≤ h 242 (3 * a) ∧ h 244 (4 * a + 1) ≤ h 242 (3 * (a + ((m + 1 : Nat) : Int))) from b89), decide_eq_true (by omega)⟩⟩
               rw [if_pos key] at q
               exact q _)
            | (have key : ¬ ((decide (hasb left (a + ((m + 1 : Nat) : Int))) && (fitB h a (a + ((m + 1 : Nat) : Int)) && decide (1 + tabM h (clr (clr left a) (a + ((m + 1 : Nat) : Int))) = tabM h left))) = true) := fun z => by
                 have z2 := (Bool.and_eq_true_iff.mp (Bool.and_eq_true_iff.mp z).2).2
                 have z3 := of_decide_eq_true z2
                 omega
               rw [if_neg key] at q
               exact q _)
            | (rw [if_neg (fun z => b89' (of_decide_eq_true (Bool.and_eq_true_iff.mp (Bool.and_eq_true_iff.mp z).2).1))] at q
               exact q _)
            | (rw [if_neg (fun z => b79 (of_decide_eq_true (Bool.and_eq_true_iff.mp z).1))] at q
               exact q _)
        ·
          refine z_iconst dX10_pair_125 ⟨by decide, by decide⟩ ?_
          refine z_goto (tgt := 130) dX10_pair_126 (by decide) ?_
          refine z_istore dX10_pair_130 (by decide) rfl lss_7_6 ?_
          refine z_iload dX10_pair_132 rfl ?_
          refine z_if_eq (tgt := 142) dX10_pair_134 (by decide) (fun q => False.elim (by omega)) (fun _ => ?_)
          refine z_iload dX10_pair_137 rfl ?_
          refine z_goto (tgt := 144) dX10_pair_139 (by decide) ?_
          refine z_istore dX10_pair_144 (by decide) rfl lss_7_4 ?_
          refine y_iinc dX10_pair_146 (by decide) rfl rfl (by omega) (by omega) lss_7_5 ?_
          refine z_goto (tgt := 70) dX10_pair_149 (by decide) ?_
          have q := fun x6 => ih x6 (by omega)
          rw [show a + (m : Int) + 1 = a + ((m + 1 : Nat) : Int) by omega, ms] at q
          rw [show a + ((m + 1 : Nat) : Int) + -1 = a + (m : Int) by omega]
          first
            | (have key : (decide (hasb left (a + ((m + 1 : Nat) : Int))) && (fitB h a (a + ((m + 1 : Nat) : Int)) && decide (1 + tabM h (clr (clr left a) (a + ((m + 1 : Nat) : Int))) = tabM h left))) = true := Bool.and_eq_true_iff.mpr ⟨decide_eq_true b79, Bool.and_eq_true_iff.mpr ⟨decide_eq_true (show h 244 (4 * (a + ((m + 1 : Nat) : Int)) + 1) ≤ h 242 (3 * a) ∧ h 244 (4 * a + 1) ≤ h 242 (3 * (a + ((m + 1 : Nat) : Int))) from b89), decide_eq_true (by omega)⟩⟩
               rw [if_pos key] at q
               exact q _)
            | (have key : ¬ ((decide (hasb left (a + ((m + 1 : Nat) : Int))) && (fitB h a (a + ((m + 1 : Nat) : Int)) && decide (1 + tabM h (clr (clr left a) (a + ((m + 1 : Nat) : Int))) = tabM h left))) = true) := fun z => by
                 have z2 := (Bool.and_eq_true_iff.mp (Bool.and_eq_true_iff.mp z).2).2
                 have z3 := of_decide_eq_true z2
                 omega
               rw [if_neg key] at q
               exact q _)
            | (rw [if_neg (fun z => b89' (of_decide_eq_true (Bool.and_eq_true_iff.mp (Bool.and_eq_true_iff.mp z).2).1))] at q
               exact q _)
            | (rw [if_neg (fun z => b79 (of_decide_eq_true (Bool.and_eq_true_iff.mp z).1))] at q
               exact q _)
      ·
        have b89' : ¬ (h 244 (4 * (a + ((m + 1 : Nat) : Int)) + 1) ≤ h 242 (3 * a) ∧ h 244 (4 * a + 1) ≤ h 242 (3 * (a + ((m + 1 : Nat) : Int)))) := b89
        refine z_if_eq (tgt := 129) dX10_pair_92 (by decide) (fun _ => ?_) (fun q => False.elim (by omega))
        refine z_iconst dX10_pair_129 ⟨by decide, by decide⟩ ?_
        refine z_istore dX10_pair_130 (by decide) rfl lss_7_6 ?_
        refine z_iload dX10_pair_132 rfl ?_
        refine z_if_eq (tgt := 142) dX10_pair_134 (by decide) (fun _ => ?_) (fun q => False.elim (by omega))
        refine z_iload dX10_pair_142 rfl ?_
        refine z_istore dX10_pair_144 (by decide) rfl lss_7_4 ?_
        refine y_iinc dX10_pair_146 (by decide) rfl rfl (by omega) (by omega) lss_7_5 ?_
        refine z_goto (tgt := 70) dX10_pair_149 (by decide) ?_
        have q := fun x6 => ih x6 (by omega)
        rw [show a + (m : Int) + 1 = a + ((m + 1 : Nat) : Int) by omega, ms] at q
        rw [show a + ((m + 1 : Nat) : Int) + -1 = a + (m : Int) by omega]
        first
          | (have key : (decide (hasb left (a + ((m + 1 : Nat) : Int))) && (fitB h a (a + ((m + 1 : Nat) : Int)) && decide (1 + tabM h (clr (clr left a) (a + ((m + 1 : Nat) : Int))) = tabM h left))) = true := Bool.and_eq_true_iff.mpr ⟨decide_eq_true b79, Bool.and_eq_true_iff.mpr ⟨decide_eq_true (show h 244 (4 * (a + ((m + 1 : Nat) : Int)) + 1) ≤ h 242 (3 * a) ∧ h 244 (4 * a + 1) ≤ h 242 (3 * (a + ((m + 1 : Nat) : Int))) from b89), decide_eq_true (by omega)⟩⟩
             rw [if_pos key] at q
             exact q _)
          | (have key : ¬ ((decide (hasb left (a + ((m + 1 : Nat) : Int))) && (fitB h a (a + ((m + 1 : Nat) : Int)) && decide (1 + tabM h (clr (clr left a) (a + ((m + 1 : Nat) : Int))) = tabM h left))) = true) := fun z => by
               have z2 := (Bool.and_eq_true_iff.mp (Bool.and_eq_true_iff.mp z).2).2
               have z3 := of_decide_eq_true z2
               omega
             rw [if_neg key] at q
             exact q _)
          | (rw [if_neg (fun z => b89' (of_decide_eq_true (Bool.and_eq_true_iff.mp (Bool.and_eq_true_iff.mp z).2).1))] at q
             exact q _)
          | (rw [if_neg (fun z => b79 (of_decide_eq_true (Bool.and_eq_true_iff.mp z).1))] at q
             exact q _)
    ·
      refine z_if_eq (tgt := 129) dX10_pair_82 (by decide) (fun _ => ?_) (fun q => False.elim (by omega))
      refine z_iconst dX10_pair_129 ⟨by decide, by decide⟩ ?_
      refine z_istore dX10_pair_130 (by decide) rfl lss_7_6 ?_
      refine z_iload dX10_pair_132 rfl ?_
      refine z_if_eq (tgt := 142) dX10_pair_134 (by decide) (fun _ => ?_) (fun q => False.elim (by omega))
      refine z_iload dX10_pair_142 rfl ?_
      refine z_istore dX10_pair_144 (by decide) rfl lss_7_4 ?_
      refine y_iinc dX10_pair_146 (by decide) rfl rfl (by omega) (by omega) lss_7_5 ?_
      refine z_goto (tgt := 70) dX10_pair_149 (by decide) ?_
      have q := fun x6 => ih x6 (by omega)
      rw [show a + (m : Int) + 1 = a + ((m + 1 : Nat) : Int) by omega, ms] at q
      rw [show a + ((m + 1 : Nat) : Int) + -1 = a + (m : Int) by omega]
      first
        | (have key : (decide (hasb left (a + ((m + 1 : Nat) : Int))) && (fitB h a (a + ((m + 1 : Nat) : Int)) && decide (1 + tabM h (clr (clr left a) (a + ((m + 1 : Nat) : Int))) = tabM h left))) = true := Bool.and_eq_true_iff.mpr ⟨decide_eq_true b79, Bool.and_eq_true_iff.mpr ⟨decide_eq_true (show h 244 (4 * (a + ((m + 1 : Nat) : Int)) + 1) ≤ h 242 (3 * a) ∧ h 244 (4 * a + 1) ≤ h 242 (3 * (a + ((m + 1 : Nat) : Int))) from b89), decide_eq_true (by omega)⟩⟩
           rw [if_pos key] at q
           exact q _)
        | (have key : ¬ ((decide (hasb left (a + ((m + 1 : Nat) : Int))) && (fitB h a (a + ((m + 1 : Nat) : Int)) && decide (1 + tabM h (clr (clr left a) (a + ((m + 1 : Nat) : Int))) = tabM h left))) = true) := fun z => by
             have z2 := (Bool.and_eq_true_iff.mp (Bool.and_eq_true_iff.mp z).2).2
             have z3 := of_decide_eq_true z2
             omega
           rw [if_neg key] at q
           exact q _)
        | (rw [if_neg (fun z => b89' (of_decide_eq_true (Bool.and_eq_true_iff.mp (Bool.and_eq_true_iff.mp z).2).1))] at q
           exact q _)
        | (rw [if_neg (fun z => b79 (of_decide_eq_true (Bool.and_eq_true_iff.mp z).1))] at q
           exact q _)
theorem lpX10_pair {l : Launch} {g h : zH} {Q : zQt} {d : Int} {t : Int → Int} (hg : zGd g) (m2 : 0 ≤ h 240 3 ∧ h 240 3 ≤ 6) (ht : TabN (fitB h) (h 240 3) t (pw (h 240 3))) (hd0 : 0 ≤ d) :
    ∀ (n i : Nat) (left : Int) (x4 x5 x6 : Option zV), i + n = (h 240 3).toNat → 0 ≤ left → left < pw (h 240 3) → Q (some (zi (pfC (fitB h) (tabM h) (h 240 3) d n i left))) (SHL, g) (har h 256 64 t) → zW zX0 l mX10_pair ((SHL, g).1.length + zmc mX10_pair) (ztot (SHL, g) + zms mX10_pair) Q 42 [some (zr 240), some (zi d), some (zi left), some (zi (i : Int)), x4, x5, x6] [] (SHL, g) (har h 256 64 t) := by
  have p1 := pw_le (n := h 240 3) (by omega)
  intro n
  induction n with
  | zero =>
    intro i left x4 x5 x6 hi l0 l1 hQ
    refine z_iload_n dX10_pair_42 rfl ?_
    refine z_aload_n dX10_pair_43 rfl (by omega) ?_
    refine y_geti (k' := 3) fl_X10_66 rfl dX10_pair_44 sh_240 (by decide) (har_ne (by decide)) ?_
    refine z_icmp_ge (tgt := 202) dX10_pair_47 (by decide) (fun _ => ?_) (fun q => False.elim (by omega))
    refine z_bipush dX10_pair_202 ⟨by decide, by decide⟩ ?_
    refine z_ret (v := some (zi _)) dX10_pair_204 trivial (Nat.add_zero _).symm (Nat.add_zero _).symm rfl ?_
    exact hQ
  | succ n ih =>
    intro i left x4 x5 x6 hi l0 l1 hQ
    have c1 := clr_r left i l0 (by omega) (by omega) (by omega)
    refine z_iload_n dX10_pair_42 rfl ?_
    refine z_aload_n dX10_pair_43 rfl (by omega) ?_
    refine y_geti (k' := 3) fl_X10_66 rfl dX10_pair_44 sh_240 (by decide) (har_ne (by decide)) ?_
    refine z_icmp_ge (tgt := 202) dX10_pair_47 (by decide) (fun q => False.elim (by omega)) (fun _ => ?_)
    refine z_iload_n dX10_pair_50 rfl ?_
    refine z_iload_n dX10_pair_51 rfl ?_
    refine z_callS (T := mX10_has) (As := [_, _]) kX10_has ml_X10_171 ⟨by decide, by decide⟩ dX10_pair_52 rfl rfl (Nat.le_of_ble_eq_true rfl) (Nat.le_refl _) (Nat.le_refl _) (qX10_has (fun b52 => ?_) (fun b52 => ?_))
    ·
      have e9 : pfC (fitB h) (tabM h) (h 240 3) d (n + 1) i left = (if (i : Int) = d then mateC (fitB h) (tabM h) (h 240 3) left i else if mateC (fitB h) (tabM h) (h 240 3) left i = d then (i : Int) else pfC (fitB h) (tabM h) (h 240 3) d n ((i : Int) + 1) (leftC (fitB h) (tabM h) (h 240 3) left i)) := if_pos b52
      rw [e9] at hQ
      refine z_if_eq (tgt := 196) dX10_pair_55 (by decide) (fun q => False.elim (by omega)) (fun _ => ?_)
      refine z_bipush dX10_pair_58 ⟨by decide, by decide⟩ ?_
      refine z_istore dX10_pair_60 (by decide) rfl lss_7_4 ?_
      refine z_aload_n dX10_pair_62 rfl (by omega) ?_
      refine y_geti (k' := 3) fl_X10_66 rfl dX10_pair_63 sh_240 (by decide) (har_ne (by decide)) ?_
      refine z_iconst dX10_pair_66 ⟨by decide, by decide⟩ ?_
      refine y_isub dX10_pair_67 (by omega) (by omega) ?_
      refine z_istore dX10_pair_68 (by decide) rfl lss_7_5 ?_
      have K2 := lpX10_mate (l := l) (Q := Q) (d := d) (left := left) (a := (i : Int)) hg m2 ht l0 l1 (by omega) (by omega) (fun x5 x6 => by
        have mr := fsN_r (f := fun b => decide (hasb left b) && (fitB h i b && decide (1 + tabM h (clr (clr left i) b) = tabM h left))) (h 240 3 - ((i : Int) + 1)).toNat ((i : Int) + 1) (by omega)
        have mr : mateC (fitB h) (tabM h) (h 240 3) left i = -9 ∨ ((i : Int) + 1 ≤ mateC (fitB h) (tabM h) (h 240 3) left i ∧ mateC (fitB h) (tabM h) (h 240 3) left i < (i : Int) + 1 + (h 240 3 - ((i : Int) + 1)).toNat) := mr
        refine z_iload_n dX10_pair_152 rfl ?_
        refine z_iload_n dX10_pair_153 rfl ?_
        refine z_icmp_ne (tgt := 160) dX10_pair_154 (by decide) (fun c154 => ?_) (fun c154 => ?_)
        ·
          refine z_iload dX10_pair_160 rfl ?_
          refine z_iload_n dX10_pair_162 rfl ?_
          refine z_icmp_ne (tgt := 168) dX10_pair_163 (by decide) (fun c163 => ?_) (fun c163 => ?_)
          ·
            refine z_iload_n dX10_pair_168 rfl ?_
            refine z_iconst dX10_pair_169 ⟨by decide, by decide⟩ ?_
            refine z_iload_n dX10_pair_170 rfl ?_
            refine z_ishl dX10_pair_171 ?_
            refine z_iconst dX10_pair_172 ⟨by decide, by decide⟩ ?_
            refine z_ixor dX10_pair_173 ?_
            refine z_iand dX10_pair_174 ?_
            refine z_istore_n dX10_pair_175 (by decide) rfl lss_7_2 ?_
            refine z_iload_n dX10_pair_176 rfl ?_
            refine z_iload dX10_pair_177 rfl ?_
            refine z_bipush dX10_pair_179 ⟨by decide, by decide⟩ ?_
            refine z_icmp_ne (tgt := 188) dX10_pair_181 (by decide) (fun c181 => ?_) (fun c181 => ?_)
            ·
              refine z_iconst dX10_pair_188 ⟨by decide, by decide⟩ ?_
              refine z_iload dX10_pair_189 rfl ?_
              refine z_ishl dX10_pair_191 ?_
              refine z_iconst dX10_pair_192 ⟨by decide, by decide⟩ ?_
              refine z_ixor dX10_pair_193 ?_
              refine z_iand dX10_pair_194 ?_
              refine z_istore_n dX10_pair_195 (by decide) rfl lss_7_2 ?_
              refine y_iinc dX10_pair_196 (by decide) rfl rfl (by omega) (by omega) lss_7_3 ?_
              refine z_goto (tgt := 42) dX10_pair_199 (by decide) ?_
              rw [if_neg (by omega), if_neg (by omega)] at hQ
              first
                | (have e8 : leftC (fitB h) (tabM h) (h 240 3) left i = clr left i := (if_pos b52).trans (if_pos (by omega))
                   rw [e8] at hQ
                   have e7 : band (band left (bxor (bshl 1 (i : Int)) (-1))) (-1) = clr left i := band_m1 (show r32 (clr left i) by unfold r32; omega)
                   rw [e7]
                   exact ih (i + 1) (clr left i) _ _ _ (by omega) c1.1 (by omega) hQ)
                | (have e8 : leftC (fitB h) (tabM h) (h 240 3) left i = clr (clr left i) (mateC (fitB h) (tabM h) (h 240 3) left i) := (if_pos b52).trans (if_neg (by omega))
                   rw [e8] at hQ
                   have c2 := clr_r (clr left i) (mateC (fitB h) (tabM h) (h 240 3) left i) c1.1 (by omega) (by omega) (by omega)
                   exact ih (i + 1) (clr (clr left i) (mateC (fitB h) (tabM h) (h 240 3) left i)) _ _ _ (by omega) c2.1 (by omega) hQ)
            ·
              refine z_iconst dX10_pair_184 ⟨by decide, by decide⟩ ?_
              refine z_goto (tgt := 194) dX10_pair_185 (by decide) ?_
              refine z_iand dX10_pair_194 ?_
              refine z_istore_n dX10_pair_195 (by decide) rfl lss_7_2 ?_
              refine y_iinc dX10_pair_196 (by decide) rfl rfl (by omega) (by omega) lss_7_3 ?_
              refine z_goto (tgt := 42) dX10_pair_199 (by decide) ?_
              rw [if_neg (by omega), if_neg (by omega)] at hQ
              first
                | (have e8 : leftC (fitB h) (tabM h) (h 240 3) left i = clr left i := (if_pos b52).trans (if_pos (by omega))
                   rw [e8] at hQ
                   have e7 : band (band left (bxor (bshl 1 (i : Int)) (-1))) (-1) = clr left i := band_m1 (show r32 (clr left i) by unfold r32; omega)
                   rw [e7]
                   exact ih (i + 1) (clr left i) _ _ _ (by omega) c1.1 (by omega) hQ)
                | (have e8 : leftC (fitB h) (tabM h) (h 240 3) left i = clr (clr left i) (mateC (fitB h) (tabM h) (h 240 3) left i) := (if_pos b52).trans (if_neg (by omega))
                   rw [e8] at hQ
                   have c2 := clr_r (clr left i) (mateC (fitB h) (tabM h) (h 240 3) left i) c1.1 (by omega) (by omega) (by omega)
                   exact ih (i + 1) (clr (clr left i) (mateC (fitB h) (tabM h) (h 240 3) left i)) _ _ _ (by omega) c2.1 (by omega) hQ)
          ·
            refine z_iload_n dX10_pair_166 rfl ?_
            refine z_ret (v := some (zi _)) dX10_pair_167 trivial (Nat.add_zero _).symm (Nat.add_zero _).symm rfl ?_
            rw [if_neg (by omega), if_pos (by omega)] at hQ
            exact hQ
        ·
          refine z_iload dX10_pair_157 rfl ?_
          refine z_ret (v := some (zi _)) dX10_pair_159 trivial (Nat.add_zero _).symm (Nat.add_zero _).symm rfl ?_
          rw [if_pos (by omega)] at hQ
          exact hQ) (h 240 3 - ((i : Int) + 1)).toNat
      rw [Nat.sub_self, show (i : Int) + ((h 240 3 - ((i : Int) + 1)).toNat : Int) = h 240 3 - 1 by omega] at K2
      exact K2 _ (by omega)
    ·
      have e9 : pfC (fitB h) (tabM h) (h 240 3) d (n + 1) i left = pfC (fitB h) (tabM h) (h 240 3) d n ((i : Int) + 1) (leftC (fitB h) (tabM h) (h 240 3) left i) := if_neg b52
      have e8 : leftC (fitB h) (tabM h) (h 240 3) left i = left := if_neg b52
      rw [e9, e8] at hQ
      refine z_if_eq (tgt := 196) dX10_pair_55 (by decide) (fun _ => ?_) (fun q => False.elim (by omega))
      refine y_iinc dX10_pair_196 (by decide) rfl rfl (by omega) (by omega) lss_7_3 ?_
      refine z_goto (tgt := 42) dX10_pair_199 (by decide) ?_
      exact ih (i + 1) left _ _ _ (by omega) l0 l1 hQ
theorem qX10_pair {l : Launch} {g h : zH} {Q : zQt} (hg : zGd g) (hm : MB h) {d : Int} (hQ : ∀ t, Q (some (zi (pairF h d))) (SHL, g) (har h 256 64 t)) (hQ0 : Q (some (zi (pairF h d))) (SHL, g) h) : zC l mX10_pair [zr 240, zi d] (SHL, g) h Q := by
  refine z_method kX10_pair.1 rfl (Nat.le_of_ble_eq_true rfl) (fun hok hh => ?_)
  obtain ⟨m0, m1, m2, m3, m4, m5, m6, m7⟩ := hm.1
  have e1 := bshl_pw (h 240 3) (by omega) (by omega)
  have p1 := pw_le (n := h 240 3) (by omega)
  have p2 := pw_pos (h 240 3)
  refine z_iload_n dX10_pair_0 rfl ?_
  refine z_iconst dX10_pair_1 ⟨by decide, by decide⟩ ?_
  refine z_icmp_eq (tgt := 15) dX10_pair_2 (by decide) (fun c2 => ?_) (fun c2 => ?_)
  ·
    refine z_aload_n dX10_pair_15 rfl (by omega) ?_
    refine z_callV (T := mX10_layPairs) (As := []) kX10_layPairs ml_X10_230 ⟨by decide, by decide⟩ dX10_pair_16 rfl rfl (Nat.le_of_ble_eq_true rfl) sh_240 ⟨by decide, rfl⟩ (Nat.le_refl _) (Nat.le_refl _) (qX10_layPairs hg m2 (fun t ht => ?_))
    have hQ := hQ t
    refine z_iconst dX10_pair_19 ⟨by decide, by decide⟩ ?_
    refine z_aload_n dX10_pair_20 rfl (by omega) ?_
    refine y_geti (k' := 3) fl_X10_66 rfl dX10_pair_21 sh_240 (by decide) (har_ne (by decide)) ?_
    refine z_ishl dX10_pair_24 ?_
    refine z_iconst dX10_pair_25 ⟨by decide, by decide⟩ ?_
    refine y_isub dX10_pair_26 (by omega) (by omega) ?_
    rw [e1]
    refine z_istore_n dX10_pair_27 (by decide) rfl lss_7_2 ?_
    refine z_iload_n dX10_pair_28 rfl ?_
    refine z_iconst dX10_pair_29 ⟨by decide, by decide⟩ ?_
    refine z_icmp_ne (tgt := 40) dX10_pair_30 (by decide) (fun c30 => ?_) (fun c30 => ?_)
    ·
      refine z_iconst dX10_pair_40 ⟨by decide, by decide⟩ ?_
      refine z_istore_n dX10_pair_41 (by decide) rfl lss_7_3 ?_
      first
        | (rw [pairF, if_neg (by omega), if_pos b7] at hQ
           exact lpX10_pair hg m2 ht b7.1 (h 240 3).toNat 0 _ _ _ _ (Nat.zero_add _) (by omega) (by omega) hQ)
        | exact absurd c2 (by omega)
    ·
      refine z_aload_n dX10_pair_33 rfl (by omega) ?_
      refine y_geta (k' := 33) fl_X10_63 rfl dX10_pair_34 sh_240 (by decide) (gf_240_33 hg) ?_
      refine z_iload_n dX10_pair_37 rfl ?_
      refine z_iaload dX10_pair_38 sh_256 (by omega) (by omega) ((har_at (by omega) (by omega)).trans (tabC_eq m2.2 ht (by omega) (by omega))) ?_
      refine z_ret (v := some (zi _)) dX10_pair_39 trivial (Nat.add_zero _).symm (Nat.add_zero _).symm rfl ?_
      rw [pairF, if_pos (by omega)] at hQ
      exact hQ
  ·
    refine z_aload_n dX10_pair_5 rfl (by omega) ?_
    refine z_iload_n dX10_pair_6 rfl ?_
    refine z_callV (T := mX10_isDirector) (As := [_]) kX10_isDirector ml_X10_179 ⟨by decide, by decide⟩ dX10_pair_7 rfl rfl (Nat.le_of_ble_eq_true rfl) sh_240 ⟨by decide, rfl⟩ (Nat.le_refl _) (Nat.le_refl _) (qX10_isDirector hg hm (fun b7 => ?_) (fun b7 => ?_))
    ·
      refine z_if_ne (tgt := 15) dX10_pair_10 (by decide) (fun _ => ?_) (fun q => False.elim (by omega))
      refine z_aload_n dX10_pair_15 rfl (by omega) ?_
      refine z_callV (T := mX10_layPairs) (As := []) kX10_layPairs ml_X10_230 ⟨by decide, by decide⟩ dX10_pair_16 rfl rfl (Nat.le_of_ble_eq_true rfl) sh_240 ⟨by decide, rfl⟩ (Nat.le_refl _) (Nat.le_refl _) (qX10_layPairs hg m2 (fun t ht => ?_))
      have hQ := hQ t
      refine z_iconst dX10_pair_19 ⟨by decide, by decide⟩ ?_
      refine z_aload_n dX10_pair_20 rfl (by omega) ?_
      refine y_geti (k' := 3) fl_X10_66 rfl dX10_pair_21 sh_240 (by decide) (har_ne (by decide)) ?_
      refine z_ishl dX10_pair_24 ?_
      refine z_iconst dX10_pair_25 ⟨by decide, by decide⟩ ?_
      refine y_isub dX10_pair_26 (by omega) (by omega) ?_
      rw [e1]
      refine z_istore_n dX10_pair_27 (by decide) rfl lss_7_2 ?_
      refine z_iload_n dX10_pair_28 rfl ?_
      refine z_iconst dX10_pair_29 ⟨by decide, by decide⟩ ?_
      refine z_icmp_ne (tgt := 40) dX10_pair_30 (by decide) (fun c30 => ?_) (fun c30 => ?_)
      ·
        refine z_iconst dX10_pair_40 ⟨by decide, by decide⟩ ?_
        refine z_istore_n dX10_pair_41 (by decide) rfl lss_7_3 ?_
        first
          | (rw [pairF, if_neg (by omega), if_pos b7] at hQ
             exact lpX10_pair hg m2 ht b7.1 (h 240 3).toNat 0 _ _ _ _ (Nat.zero_add _) (by omega) (by omega) hQ)
          | exact absurd c2 (by omega)
      ·
        refine z_aload_n dX10_pair_33 rfl (by omega) ?_
        refine y_geta (k' := 33) fl_X10_63 rfl dX10_pair_34 sh_240 (by decide) (gf_240_33 hg) ?_
        refine z_iload_n dX10_pair_37 rfl ?_
        refine z_iaload dX10_pair_38 sh_256 (by omega) (by omega) ((har_at (by omega) (by omega)).trans (tabC_eq m2.2 ht (by omega) (by omega))) ?_
        refine z_ret (v := some (zi _)) dX10_pair_39 trivial (Nat.add_zero _).symm (Nat.add_zero _).symm rfl ?_
        rw [pairF, if_pos (by omega)] at hQ
        exact hQ
    ·
      refine z_if_ne (tgt := 15) dX10_pair_10 (by decide) (fun q => False.elim (by omega)) (fun _ => ?_)
      refine z_iconst dX10_pair_13 ⟨by decide, by decide⟩ ?_
      refine z_ret (v := some (zi _)) dX10_pair_14 trivial (Nat.add_zero _).symm (Nat.add_zero _).symm rfl ?_
      rw [pairF, if_neg (by omega), if_neg b7] at hQ0
      exact hQ0
