/-! The reference: its text is read. -/
def MH (h G : zH) (a f c q : Int) : zH := fun x y => if x = 240 ∧ 17 ≤ y ∧ y ≤ 28 then (if y = 17 then a else if y = 18 then f else if y = 19 then c else if y = 20 then q else G 240 y) else if 250 ≤ x ∧ x ≤ 254 then G x y else h x y
theorem MH_r17 {h G : zH} {a f c q : Int} : MH h G a f c q 240 17 = a := by
  unfold MH
  rw [if_pos (by omega), if_pos rfl]
theorem MH_r18 {h G : zH} {a f c q : Int} : MH h G a f c q 240 18 = f := by
  unfold MH
  rw [if_pos (by omega), if_neg (by omega), if_pos rfl]
theorem MH_r19 {h G : zH} {a f c q : Int} : MH h G a f c q 240 19 = c := by
  unfold MH
  rw [if_pos (by omega), if_neg (by omega), if_neg (by omega), if_pos rfl]
theorem MH_r20 {h G : zH} {a f c q : Int} : MH h G a f c q 240 20 = q := by
  unfold MH
  rw [if_pos (by omega), if_neg (by omega), if_neg (by omega), if_neg (by omega), if_pos rfl]
theorem MH_ne {h G : zH} {a f c q : Int} {x y : Int} (h1 : ¬ (x = 240 ∧ 17 ≤ y ∧ y ≤ 28)) (h2 : x < 250 ∨ 254 < x) : MH h G a f c q x y = h x y := by
  unfold MH
  rw [if_neg h1, if_neg (by omega)]
theorem MH_l {h G : zH} {a f c q : Int} : MH h G a f c q 240 16 = h 240 16 := MH_ne (by omega) (by omega)
theorem MH_x {h G : zH} {a f c q : Int} {i : Int} : MH h G a f c q 249 i = h 249 i := MH_ne (by omega) (by omega)
theorem MH_g {h G : zH} {a f c q : Int} {y : Int} (y0 : 21 ≤ y) (y1 : y ≤ 28) : MH h G a f c q 240 y = G 240 y := by
  unfold MH
  rw [if_pos (by omega), if_neg (by omega), if_neg (by omega), if_neg (by omega), if_neg (by omega)]
theorem MH_a {h G : zH} {a f c q : Int} {x y : Int} (x0 : 250 ≤ x) (x1 : x ≤ 254) : MH h G a f c q x y = G x y := by
  unfold MH
  rw [if_neg (by omega), if_pos (by omega)]
theorem MH_wg {h G : zH} {a f c q : Int} {y v : Int} (y0 : 21 ≤ y) (y1 : y ≤ 28) : zup (MH h G a f c q) 240 y v = MH h (zup G 240 y v) a f c q := by
  funext X Y
  by_cases z : X = 240 ∧ Y = y
  · rw [z.1, z.2, zup_same, MH_g y0 y1, zup_same]
  · rw [zup_ne z]
    unfold MH
    by_cases w : X = 240 ∧ 17 ≤ Y ∧ Y ≤ 28
    · rw [if_pos w, if_pos w, zup_ne (by omega)]
    · rw [if_neg w, if_neg w]
      by_cases u : 250 ≤ X ∧ X ≤ 254
      · rw [if_pos u, if_pos u, zup_ne (by omega)]
      · rw [if_neg u, if_neg u]
theorem MH_wa {h G : zH} {a f c q : Int} {x y v : Int} (x0 : 250 ≤ x) (x1 : x ≤ 254) : zup (MH h G a f c q) x y v = MH h (zup G x y v) a f c q := by
  funext X Y
  by_cases z : X = x ∧ Y = y
  · rw [z.1, z.2, zup_same, MH_a x0 x1, zup_same]
  · rw [zup_ne z]
    unfold MH
    by_cases w : X = 240 ∧ 17 ≤ Y ∧ Y ≤ 28
    · rw [if_pos w, if_pos w, zup_ne (by omega)]
    · rw [if_neg w, if_neg w]
      by_cases u : 250 ≤ X ∧ X ≤ 254
      · rw [if_pos u, if_pos u, zup_ne (by omega)]
      · rw [if_neg u, if_neg u]
theorem MH_w17 {h G : zH} {a f c q : Int} {x : Int} : zup (MH h G a f c q) 240 17 x = MH h G x f c q := by
  funext X Y
  by_cases z : X = 240 ∧ Y = 17
  · rw [z.1, z.2, zup_same, MH_r17]
  · rw [zup_ne z]
    unfold MH
    by_cases y : X = 240 ∧ 17 ≤ Y ∧ Y ≤ 28
    · rw [if_pos y, if_pos y]
      simp only [if_neg (show ¬ Y = 17 by omega)]
    · rw [if_neg y, if_neg y]
theorem MH_w18 {h G : zH} {a f c q : Int} {x : Int} : zup (MH h G a f c q) 240 18 x = MH h G a x c q := by
  funext X Y
  by_cases z : X = 240 ∧ Y = 18
  · rw [z.1, z.2, zup_same, MH_r18]
  · rw [zup_ne z]
    unfold MH
    by_cases y : X = 240 ∧ 17 ≤ Y ∧ Y ≤ 28
    · rw [if_pos y, if_pos y]
      simp only [if_neg (show ¬ Y = 18 by omega)]
    · rw [if_neg y, if_neg y]
theorem MH_w19 {h G : zH} {a f c q : Int} {x : Int} : zup (MH h G a f c q) 240 19 x = MH h G a f x q := by
  funext X Y
  by_cases z : X = 240 ∧ Y = 19
  · rw [z.1, z.2, zup_same, MH_r19]
  · rw [zup_ne z]
    unfold MH
    by_cases y : X = 240 ∧ 17 ≤ Y ∧ Y ≤ 28
    · rw [if_pos y, if_pos y]
      simp only [if_neg (show ¬ Y = 19 by omega)]
    · rw [if_neg y, if_neg y]
theorem MH_w20 {h G : zH} {a f c q : Int} {x : Int} : zup (MH h G a f c q) 240 20 x = MH h G a f c x := by
  funext X Y
  by_cases z : X = 240 ∧ Y = 20
  · rw [z.1, z.2, zup_same, MH_r20]
  · rw [zup_ne z]
    unfold MH
    by_cases y : X = 240 ∧ 17 ≤ Y ∧ Y ≤ 28
    · rw [if_pos y, if_pos y]
      simp only [if_neg (show ¬ Y = 20 by omega)]
    · rw [if_neg y, if_neg y]
theorem lwX10_skip {l : Launch} {g h G : zH} {Q : zQt} {f c q : Int} (hg : zGd g) (hL : 0 ≤ h 240 16 ∧ h 240 16 ≤ 150) (hT : ∀ i, 0 ≤ i → i < h 240 16 → 0 ≤ h 249 i ∧ h 249 i ≤ 255) {A : Int} (K : zW zX0 l mX10_next ((SHL, g).1.length + zmc mX10_next) (ztot (SHL, g) + zms mX10_next) Q 38 [some (zr 240), none] [] (SHL, g) (MH h G (sc isB (h 249) (h 240 16) A) f c q)) : ∀ (n : Nat) (a : Int), n = (h 240 16 - a).toNat → 0 ≤ a → a ≤ h 240 16 → sc isB (h 249) (h 240 16) a = sc isB (h 249) (h 240 16) A → zW zX0 l mX10_next ((SHL, g).1.length + zmc mX10_next) (ztot (SHL, g) + zms mX10_next) Q 0 [some (zr 240), none] [] (SHL, g) (MH h G a f c q) := by
  intro n
  induction n with
  | zero =>
    intro a hn a0 a1 he
    rw [← he, sc_L (by omega)] at K
    refine z_aload_n dX10_next_0 rfl (by omega) ?_
    refine y_geti (k' := 17) fl_X10_85 rfl dX10_next_1 sh_240 (by decide) MH_r17 ?_
    refine z_aload_n dX10_next_4 rfl (by omega) ?_
    refine y_geti (k' := 16) fl_X10_82 rfl dX10_next_5 sh_240 (by decide) MH_l ?_
    refine z_icmp_ge (tgt := 38) dX10_next_8 (by decide) (fun _ => ?_) (fun q => False.elim (by omega))
    exact K
  | succ n ih =>
    intro a hn a0 a1 he
    refine z_aload_n dX10_next_0 rfl (by omega) ?_
    refine y_geti (k' := 17) fl_X10_85 rfl dX10_next_1 sh_240 (by decide) MH_r17 ?_
    refine z_aload_n dX10_next_4 rfl (by omega) ?_
    refine y_geti (k' := 16) fl_X10_82 rfl dX10_next_5 sh_240 (by decide) MH_l ?_
    refine z_icmp_ge (tgt := 38) dX10_next_8 (by decide) (fun q => False.elim (by omega)) (fun _ => ?_)
    refine z_aload_n dX10_next_11 rfl (by omega) ?_
    refine y_geta (k' := 15) fl_X10_39 rfl dX10_next_12 sh_240 (by decide) (gf_240_15 hg) ?_
    refine z_aload_n dX10_next_15 rfl (by omega) ?_
    refine y_geti (k' := 17) fl_X10_85 rfl dX10_next_16 sh_240 (by decide) MH_r17 ?_
    refine z_iaload dX10_next_19 sh_249 (by omega) (by omega) MH_x ?_
    refine z_bipush dX10_next_20 ⟨by decide, by decide⟩ ?_
    refine z_icmp_ne (tgt := 38) dX10_next_22 (by decide) (fun c22 => ?_) (fun c22 => ?_)
    ·
      rw [← he, sc_n (by omega) (fun z => absurd (of_decide_eq_true z) c22)] at K
      exact K
    ·
      refine z_aload_n dX10_next_25 rfl (by omega) ?_
      refine z_dup dX10_next_26 rfl ?_
      refine y_geti (k' := 17) fl_X10_85 rfl dX10_next_27 sh_240 (by decide) MH_r17 ?_
      refine z_iconst dX10_next_30 ⟨by decide, by decide⟩ ?_
      refine y_iadd dX10_next_31 (by omega) (by omega) ?_
      refine y_puti (k' := 17) fl_X10_85 rfl dX10_next_32 sh_240 (by decide)  ?_
      rw [MH_w17]
      refine z_goto (tgt := 0) dX10_next_35 (by decide) ?_
      exact ih (a + 1) (by omega) (by omega) (by omega) ((sc_t (by omega) (show isB (h 249 a) = true from decide_eq_true (by omega))).symm.trans he)
/-- a number's token while it is read -/
def tv (h : zH) (s e : Int) : Int := if e = s + 1 then h 249 s - 48 else if e = s + 2 ∧ ¬ h 249 s = 48 then 10 * (h 249 s - 48) + h 249 (s + 1) - 48 else -3
theorem lwX10_num {l : Launch} {g h G : zH} {Q : zQt} {f q x : Int} (hg : zGd g) (hL : 0 ≤ h 240 16 ∧ h 240 16 ≤ 150) (hT : ∀ i, 0 ≤ i → i < h 240 16 → 0 ≤ h 249 i ∧ h 249 i ≤ 255) {A : Int} (A0 : 0 ≤ q) (hA : A = q + 1) (hq : 48 ≤ h 249 q ∧ h 249 q ≤ 57) (K : zW zX0 l mX10_next ((SHL, g).1.length + zmc mX10_next) (ztot (SHL, g) + zms mX10_next) Q 264 [some (zr 240), some (zi x)] [] (SHL, g) (MH h G (sc isD (h 249) (h 240 16) A) f (tv h q (sc isD (h 249) (h 240 16) A)) q)) : ∀ (n : Nat) (a : Int), n = (h 240 16 - a).toNat → q + 1 ≤ a → a ≤ h 240 16 → sc isD (h 249) (h 240 16) a = sc isD (h 249) (h 240 16) A → zW zX0 l mX10_next ((SHL, g).1.length + zmc mX10_next) (ztot (SHL, g) + zms mX10_next) Q 98 [some (zr 240), some (zi x)] [] (SHL, g) (MH h G a f (tv h q a) q) := by
  intro n
  induction n with
  | zero =>
    intro a hn a0 a1 he
    have e2 : sc isD (h 249) (h 240 16) a = a := sc_L (by omega)
    rw [← he, e2] at K
    refine z_aload_n dX10_next_98 rfl (by omega) ?_
    refine y_geti (k' := 17) fl_X10_85 rfl dX10_next_99 sh_240 (by decide) MH_r17 ?_
    refine z_aload_n dX10_next_102 rfl (by omega) ?_
    refine y_geti (k' := 16) fl_X10_82 rfl dX10_next_103 sh_240 (by decide) MH_l ?_
    refine z_icmp_ge (tgt := 264) dX10_next_106 (by decide) (fun _ => ?_) (fun q => False.elim (by omega))
    exact K
  | succ n ih =>
    intro a hn a0 a1 he
    have h8 := hT a (by omega) (by omega)
    have t9 : -3 ≤ tv h q a ∧ tv h q a ≤ 99 ∨ q + 1 < a := by
      unfold tv
      by_cases z : a = q + 1
      · rw [if_pos z]; omega
      · omega
    have t8 : a = q + 1 → tv h q a = h 249 q - 48 := fun z => if_pos z
    have t7 : a + 1 = q + 2 → tv h q (a + 1) = if ¬ h 249 q = 48 then 10 * (h 249 q - 48) + h 249 a - 48 else -3 := fun z => by
      unfold tv
      rw [if_neg (by omega), show q + 1 = a by omega]
      by_cases y : h 249 q = 48
      · rw [if_neg (fun w => w.2 y), if_neg (fun w => w y)]
      · rw [if_pos ⟨z, y⟩, if_pos y]
    have t6 : q + 2 ≤ a → tv h q (a + 1) = -3 := fun z => by
      unfold tv
      rw [if_neg (by omega), if_neg (by omega)]
    generalize hta : tv h q a = ta at *
    refine z_aload_n dX10_next_98 rfl (by omega) ?_
    refine y_geti (k' := 17) fl_X10_85 rfl dX10_next_99 sh_240 (by decide) MH_r17 ?_
    refine z_aload_n dX10_next_102 rfl (by omega) ?_
    refine y_geti (k' := 16) fl_X10_82 rfl dX10_next_103 sh_240 (by decide) MH_l ?_
    refine z_icmp_ge (tgt := 264) dX10_next_106 (by decide) (fun q => False.elim (by omega)) (fun _ => ?_)
    refine z_aload_n dX10_next_109 rfl (by omega) ?_
    refine y_geta (k' := 15) fl_X10_39 rfl dX10_next_110 sh_240 (by decide) (gf_240_15 hg) ?_
    refine z_aload_n dX10_next_113 rfl (by omega) ?_
    refine y_geti (k' := 17) fl_X10_85 rfl dX10_next_114 sh_240 (by decide) MH_r17 ?_
    refine z_iaload dX10_next_117 sh_249 (by omega) (by omega) MH_x ?_
    refine z_callS (T := mX10_isFigure) (As := [_]) kX10_isFigure ml_X10_94 ⟨by decide, by decide⟩ dX10_next_118 rfl rfl (Nat.le_of_ble_eq_true rfl) (Nat.le_refl _) (Nat.le_refl _) (qX10_isFigure (fun b118 => ?_) (fun b118 => ?_))
    ·
      refine z_if_eq (tgt := 264) dX10_next_121 (by decide) (fun q => False.elim (by omega)) (fun _ => ?_)
      refine z_aload_n dX10_next_124 rfl (by omega) ?_
      refine z_aload_n dX10_next_125 rfl (by omega) ?_
      refine y_geti (k' := 17) fl_X10_85 rfl dX10_next_126 sh_240 (by decide) MH_r17 ?_
      refine z_aload_n dX10_next_129 rfl (by omega) ?_
      refine y_geti (k' := 20) fl_X10_88 rfl dX10_next_130 sh_240 (by decide) MH_r20 ?_
      refine z_iconst dX10_next_133 ⟨by decide, by decide⟩ ?_
      refine y_iadd dX10_next_134 (by omega) (by omega) ?_
      refine z_icmp_ne (tgt := 168) dX10_next_135 (by decide) (fun c135 => ?_) (fun c135 => ?_)
      ·
        refine z_bipush dX10_next_168 ⟨by decide, by decide⟩ ?_
        refine y_puti (k' := 19) fl_X10_91 rfl dX10_next_170 sh_240 (by decide)  ?_
        rw [MH_w19]
        refine z_aload_n dX10_next_173 rfl (by omega) ?_
        refine z_dup dX10_next_174 rfl ?_
        refine y_geti (k' := 17) fl_X10_85 rfl dX10_next_175 sh_240 (by decide) MH_r17 ?_
        refine z_iconst dX10_next_178 ⟨by decide, by decide⟩ ?_
        refine y_iadd dX10_next_179 (by omega) (by omega) ?_
        refine y_puti (k' := 17) fl_X10_85 rfl dX10_next_180 sh_240 (by decide)  ?_
        rw [MH_w17]
        refine z_goto (tgt := 98) dX10_next_183 (by decide) ?_
        have z := ih (a + 1) (by omega) (by omega) (by omega) ((sc_t (by omega) (show isD (h 249 a) = true from decide_eq_true b118)).symm.trans he)
        first
          | (rw [t6 (by omega)] at z; exact z)
          | (rw [t7 (by omega), if_neg (by omega)] at z; exact z)
          | (rw [t7 (by omega), if_pos (by omega), ← t8 (by omega)] at z; exact z)
      ·
        refine z_aload_n dX10_next_138 rfl (by omega) ?_
        refine y_geti (k' := 19) fl_X10_91 rfl dX10_next_139 sh_240 (by decide) MH_r19 ?_
        refine z_if_le (tgt := 168) dX10_next_142 (by decide) (fun c142 => ?_) (fun c142 => ?_)
        ·
          refine z_bipush dX10_next_168 ⟨by decide, by decide⟩ ?_
          refine y_puti (k' := 19) fl_X10_91 rfl dX10_next_170 sh_240 (by decide)  ?_
          rw [MH_w19]
          refine z_aload_n dX10_next_173 rfl (by omega) ?_
          refine z_dup dX10_next_174 rfl ?_
          refine y_geti (k' := 17) fl_X10_85 rfl dX10_next_175 sh_240 (by decide) MH_r17 ?_
          refine z_iconst dX10_next_178 ⟨by decide, by decide⟩ ?_
          refine y_iadd dX10_next_179 (by omega) (by omega) ?_
          refine y_puti (k' := 17) fl_X10_85 rfl dX10_next_180 sh_240 (by decide)  ?_
          rw [MH_w17]
          refine z_goto (tgt := 98) dX10_next_183 (by decide) ?_
          have z := ih (a + 1) (by omega) (by omega) (by omega) ((sc_t (by omega) (show isD (h 249 a) = true from decide_eq_true b118)).symm.trans he)
          first
            | (rw [t6 (by omega)] at z; exact z)
            | (rw [t7 (by omega), if_neg (by omega)] at z; exact z)
            | (rw [t7 (by omega), if_pos (by omega), ← t8 (by omega)] at z; exact z)
        ·
          refine z_bipush dX10_next_145 ⟨by decide, by decide⟩ ?_
          refine z_aload_n dX10_next_147 rfl (by omega) ?_
          refine y_geti (k' := 19) fl_X10_91 rfl dX10_next_148 sh_240 (by decide) MH_r19 ?_
          refine y_imul dX10_next_151 (by omega) (by omega) ?_
          refine z_aload_n dX10_next_152 rfl (by omega) ?_
          refine y_geta (k' := 15) fl_X10_39 rfl dX10_next_153 sh_240 (by decide) (gf_240_15 hg) ?_
          refine z_aload_n dX10_next_156 rfl (by omega) ?_
          refine y_geti (k' := 17) fl_X10_85 rfl dX10_next_157 sh_240 (by decide) MH_r17 ?_
          refine z_iaload dX10_next_160 sh_249 (by omega) (by omega) MH_x ?_
          refine y_iadd dX10_next_161 (by omega) (by omega) ?_
          refine z_bipush dX10_next_162 ⟨by decide, by decide⟩ ?_
          refine y_isub dX10_next_164 (by omega) (by omega) ?_
          refine z_goto (tgt := 170) dX10_next_165 (by decide) ?_
          refine y_puti (k' := 19) fl_X10_91 rfl dX10_next_170 sh_240 (by decide)  ?_
          rw [MH_w19]
          refine z_aload_n dX10_next_173 rfl (by omega) ?_
          refine z_dup dX10_next_174 rfl ?_
          refine y_geti (k' := 17) fl_X10_85 rfl dX10_next_175 sh_240 (by decide) MH_r17 ?_
          refine z_iconst dX10_next_178 ⟨by decide, by decide⟩ ?_
          refine y_iadd dX10_next_179 (by omega) (by omega) ?_
          refine y_puti (k' := 17) fl_X10_85 rfl dX10_next_180 sh_240 (by decide)  ?_
          rw [MH_w17]
          refine z_goto (tgt := 98) dX10_next_183 (by decide) ?_
          have z := ih (a + 1) (by omega) (by omega) (by omega) ((sc_t (by omega) (show isD (h 249 a) = true from decide_eq_true b118)).symm.trans he)
          first
            | (rw [t6 (by omega)] at z; exact z)
            | (rw [t7 (by omega), if_neg (by omega)] at z; exact z)
            | (rw [t7 (by omega), if_pos (by omega), ← t8 (by omega)] at z; exact z)
    ·
      refine z_if_eq (tgt := 264) dX10_next_121 (by decide) (fun _ => ?_) (fun q => False.elim (by omega))
      have e2 : sc isD (h 249) (h 240 16) a = a := sc_n (by omega) (fun z => absurd (of_decide_eq_true z) b118)
      rw [← he, e2, hta] at K
      exact K
theorem lwX10_let {l : Launch} {g h G : zH} {Q : zQt} {f q x : Int} (hg : zGd g) (hL : 0 ≤ h 240 16 ∧ h 240 16 ≤ 150) (hT : ∀ i, 0 ≤ i → i < h 240 16 → 0 ≤ h 249 i ∧ h 249 i ≤ 255) {A : Int} (A0 : 0 ≤ q) (hA : A = q + 1) (K : zW zX0 l mX10_next ((SHL, g).1.length + zmc mX10_next) (ztot (SHL, g) + zms mX10_next) Q 264 [some (zr 240), some (zi x)] [] (SHL, g) (MH h G (sc isL (h 249) (h 240 16) A) f (if sc isL (h 249) (h 240 16) A = q + 1 then 1000 + x else -3) q)) : ∀ (n : Nat) (a c : Int), n = (h 240 16 - a).toNat → q + 1 ≤ a → a ≤ h 240 16 → sc isL (h 249) (h 240 16) a = sc isL (h 249) (h 240 16) A → c = (if a = q + 1 then 1000 + x else -3) → zW zX0 l mX10_next ((SHL, g).1.length + zmc mX10_next) (ztot (SHL, g) + zms mX10_next) Q 202 [some (zr 240), some (zi x)] [] (SHL, g) (MH h G a f c q) := by
  intro n
  induction n with
  | zero =>
    intro a c hn a0 a1 he hc
    have e2 : sc isL (h 249) (h 240 16) a = a := sc_L (by omega)
    rw [← he, e2, ← hc] at K
    refine z_aload_n dX10_next_202 rfl (by omega) ?_
    refine y_geti (k' := 17) fl_X10_85 rfl dX10_next_203 sh_240 (by decide) MH_r17 ?_
    refine z_aload_n dX10_next_206 rfl (by omega) ?_
    refine y_geti (k' := 16) fl_X10_82 rfl dX10_next_207 sh_240 (by decide) MH_l ?_
    refine z_icmp_ge (tgt := 264) dX10_next_210 (by decide) (fun _ => ?_) (fun q => False.elim (by omega))
    exact K
  | succ n ih =>
    intro a c hn a0 a1 he hc
    refine z_aload_n dX10_next_202 rfl (by omega) ?_
    refine y_geti (k' := 17) fl_X10_85 rfl dX10_next_203 sh_240 (by decide) MH_r17 ?_
    refine z_aload_n dX10_next_206 rfl (by omega) ?_
    refine y_geti (k' := 16) fl_X10_82 rfl dX10_next_207 sh_240 (by decide) MH_l ?_
    refine z_icmp_ge (tgt := 264) dX10_next_210 (by decide) (fun q => False.elim (by omega)) (fun _ => ?_)
    refine z_aload_n dX10_next_213 rfl (by omega) ?_
    refine y_geta (k' := 15) fl_X10_39 rfl dX10_next_214 sh_240 (by decide) (gf_240_15 hg) ?_
    refine z_aload_n dX10_next_217 rfl (by omega) ?_
    refine y_geti (k' := 17) fl_X10_85 rfl dX10_next_218 sh_240 (by decide) MH_r17 ?_
    refine z_iaload dX10_next_221 sh_249 (by omega) (by omega) MH_x ?_
    refine z_callS (T := mX10_isLetter) (As := [_]) kX10_isLetter ml_X10_98 ⟨by decide, by decide⟩ dX10_next_222 rfl rfl (Nat.le_of_ble_eq_true rfl) (Nat.le_refl _) (Nat.le_refl _) (qX10_isLetter (fun b222 => ?_) (fun b222 => ?_))
    ·
      refine z_if_eq (tgt := 264) dX10_next_225 (by decide) (fun q => False.elim (by omega)) (fun _ => ?_)
      refine z_aload_n dX10_next_228 rfl (by omega) ?_
      refine z_bipush dX10_next_229 ⟨by decide, by decide⟩ ?_
      refine y_puti (k' := 19) fl_X10_91 rfl dX10_next_231 sh_240 (by decide)  ?_
      rw [MH_w19]
      refine z_aload_n dX10_next_234 rfl (by omega) ?_
      refine z_dup dX10_next_235 rfl ?_
      refine y_geti (k' := 17) fl_X10_85 rfl dX10_next_236 sh_240 (by decide) MH_r17 ?_
      refine z_iconst dX10_next_239 ⟨by decide, by decide⟩ ?_
      refine y_iadd dX10_next_240 (by omega) (by omega) ?_
      refine y_puti (k' := 17) fl_X10_85 rfl dX10_next_241 sh_240 (by decide)  ?_
      rw [MH_w17]
      refine z_goto (tgt := 202) dX10_next_244 (by decide) ?_
      exact ih (a + 1) (-3) (by omega) (by omega) (by omega) ((sc_t (by omega) (show isL (h 249 a) = true from decide_eq_true b222)).symm.trans he) (if_neg (by omega)).symm
    ·
      refine z_if_eq (tgt := 264) dX10_next_225 (by decide) (fun _ => ?_) (fun q => False.elim (by omega))
      have e2 : sc isL (h 249) (h 240 16) a = a := sc_n (by omega) (fun z => absurd (of_decide_eq_true z) b222)
      rw [← he, e2, ← hc] at K
      exact K
theorem qX10_next {l : Launch} {g h G : zH} {Q : zQt} {a f c q : Int} (hg : zGd g) (hL : 0 ≤ h 240 16 ∧ h 240 16 ≤ 150) (hT : ∀ i, 0 ≤ i → i < h 240 16 → 0 ≤ h 249 i ∧ h 249 i ≤ 255) (a0 : 0 ≤ a) (a1 : a ≤ h 240 16) (hQ : Q none (SHL, g) (MH h G (ke (h 249) (h 240 16) a) f (kc (h 249) (h 240 16) a) (ks (h 249) (h 240 16) a))) : zC l mX10_next [zr 240] (SHL, g) (MH h G a f c q) Q := by
  refine z_method kX10_next.1 rfl (Nat.le_of_ble_eq_true rfl) (fun hok hh => ?_)
  refine lwX10_skip hg hL hT (A := a) ?_ _ a rfl a0 a1 rfl
  have r1 := ks_r (X := h 249) a1
  unfold ks at r1
  have hQ2 : Q none (SHL, g) (MH h G (tke (h 249) (h 240 16) (sc isB (h 249) (h 240 16) a)) f (tkc (h 249) (h 240 16) (sc isB (h 249) (h 240 16) a)) (sc isB (h 249) (h 240 16) a)) := hQ
  clear hQ
  generalize sc isB (h 249) (h 240 16) a = s at *
  refine z_aload_n dX10_next_38 rfl (by omega) ?_
  refine z_aload_n dX10_next_39 rfl (by omega) ?_
  refine y_geti (k' := 17) fl_X10_85 rfl dX10_next_40 sh_240 (by decide) MH_r17 ?_
  refine y_puti (k' := 20) fl_X10_88 rfl dX10_next_43 sh_240 (by decide)  ?_
  rw [MH_w20]
  refine z_aload_n dX10_next_46 rfl (by omega) ?_
  refine y_geti (k' := 17) fl_X10_85 rfl dX10_next_47 sh_240 (by decide) MH_r17 ?_
  refine z_aload_n dX10_next_50 rfl (by omega) ?_
  refine y_geti (k' := 16) fl_X10_82 rfl dX10_next_51 sh_240 (by decide) MH_l ?_
  refine z_icmp_ne (tgt := 63) dX10_next_54 (by decide) (fun c54 => ?_) (fun c54 => ?_)
  ·
    refine z_aload_n dX10_next_63 rfl (by omega) ?_
    refine y_geta (k' := 15) fl_X10_39 rfl dX10_next_64 sh_240 (by decide) (gf_240_15 hg) ?_
    refine z_aload_n dX10_next_67 rfl (by omega) ?_
    refine y_geti (k' := 17) fl_X10_85 rfl dX10_next_68 sh_240 (by decide) MH_r17 ?_
    refine z_iaload dX10_next_71 sh_249 (by omega) (by omega) MH_x ?_
    refine z_istore_n dX10_next_72 (by decide) rfl lss_2_1 ?_
    refine z_aload_n dX10_next_73 rfl (by omega) ?_
    refine z_dup dX10_next_74 rfl ?_
    refine y_geti (k' := 17) fl_X10_85 rfl dX10_next_75 sh_240 (by decide) MH_r17 ?_
    refine z_iconst dX10_next_78 ⟨by decide, by decide⟩ ?_
    refine y_iadd dX10_next_79 (by omega) (by omega) ?_
    refine y_puti (k' := 17) fl_X10_85 rfl dX10_next_80 sh_240 (by decide)  ?_
    rw [MH_w17]
    have n0 : ¬ h 240 16 ≤ s := by omega
    have h8 := hT s (by omega) (by omega)
    refine z_iload_n dX10_next_83 rfl ?_
    refine z_callS (T := mX10_isFigure) (As := [_]) kX10_isFigure ml_X10_94 ⟨by decide, by decide⟩ dX10_next_84 rfl rfl (Nat.le_of_ble_eq_true rfl) (Nat.le_refl _) (Nat.le_refl _) (qX10_isFigure (fun b84 => ?_) (fun b84 => ?_))
    ·
      refine z_if_eq (tgt := 186) dX10_next_87 (by decide) (fun q => False.elim (by omega)) (fun _ => ?_)
      refine z_aload_n dX10_next_90 rfl (by omega) ?_
      refine z_iload_n dX10_next_91 rfl ?_
      refine z_bipush dX10_next_92 ⟨by decide, by decide⟩ ?_
      refine y_isub dX10_next_94 (by omega) (by omega) ?_
      refine y_puti (k' := 19) fl_X10_91 rfl dX10_next_95 sh_240 (by decide)  ?_
      rw [MH_w19]
      have y1 : ¬ isL (h 249 s) = true := fun z => absurd (of_decide_eq_true z) (by omega)
      have y2 : isD (h 249 s) = true := decide_eq_true b84
      have tE : tke (h 249) (h 240 16) s = sc isD (h 249) (h 240 16) (s + 1) := (if_neg n0).trans ((if_neg y1).trans (if_pos y2))
      have tC : tkc (h 249) (h 240 16) s = tv h s (sc isD (h 249) (h 240 16) (s + 1)) := (if_neg n0).trans ((if_neg y1).trans (if_pos y2))
      rw [tE, tC] at hQ2
      have K := lwX10_num hg hL hT (A := s + 1) (x := h 249 s) (f := f) (G := G) (l := l) (Q := Q) (show 0 ≤ s by omega) rfl b84 (by
        refine z_ret (v := none) dX10_next_264 trivial (Nat.add_zero _).symm (Nat.add_zero _).symm rfl ?_
        exact hQ2) _ (s + 1) rfl (by omega) (by omega) rfl
      have e5 : tv h s (s + 1) = h 249 s - 48 := if_pos rfl
      rw [e5] at K
      exact K
    ·
      refine z_if_eq (tgt := 186) dX10_next_87 (by decide) (fun _ => ?_) (fun q => False.elim (by omega))
      refine z_iload_n dX10_next_186 rfl ?_
      refine z_callS (T := mX10_isLetter) (As := [_]) kX10_isLetter ml_X10_98 ⟨by decide, by decide⟩ dX10_next_187 rfl rfl (Nat.le_of_ble_eq_true rfl) (Nat.le_refl _) (Nat.le_refl _) (qX10_isLetter (fun b187 => ?_) (fun b187 => ?_))
      ·
        refine z_if_eq (tgt := 247) dX10_next_190 (by decide) (fun q => False.elim (by omega)) (fun _ => ?_)
        refine z_aload_n dX10_next_193 rfl (by omega) ?_
        refine z_sipush dX10_next_194 ⟨by decide, by decide⟩ ?_
        refine z_iload_n dX10_next_197 rfl ?_
        refine y_iadd dX10_next_198 (by omega) (by omega) ?_
        refine y_puti (k' := 19) fl_X10_91 rfl dX10_next_199 sh_240 (by decide)  ?_
        rw [MH_w19]
        have y1 : isL (h 249 s) = true := decide_eq_true b187
        have tE : tke (h 249) (h 240 16) s = sc isL (h 249) (h 240 16) (s + 1) := (if_neg n0).trans (if_pos y1)
        have tC : tkc (h 249) (h 240 16) s = if sc isL (h 249) (h 240 16) (s + 1) = s + 1 then 1000 + h 249 s else -3 := (if_neg n0).trans (if_pos y1)
        rw [tE, tC] at hQ2
        exact lwX10_let hg hL hT (A := s + 1) (show 0 ≤ s by omega) rfl (by
          refine z_ret (v := none) dX10_next_264 trivial (Nat.add_zero _).symm (Nat.add_zero _).symm rfl ?_
          exact hQ2) _ (s + 1) _ rfl (by omega) (by omega) rfl (if_pos rfl).symm
      ·
        refine z_if_eq (tgt := 247) dX10_next_190 (by decide) (fun _ => ?_) (fun q => False.elim (by omega))
        refine z_aload_n dX10_next_247 rfl (by omega) ?_
        refine z_iload_n dX10_next_248 rfl ?_
        refine z_bipush dX10_next_249 ⟨by decide, by decide⟩ ?_
        refine z_icmp_ne (tgt := 259) dX10_next_251 (by decide) (fun c251 => ?_) (fun c251 => ?_)
        ·
          refine z_bipush dX10_next_259 ⟨by decide, by decide⟩ ?_
          refine y_puti (k' := 19) fl_X10_91 rfl dX10_next_261 sh_240 (by decide)  ?_
          rw [MH_w19]
          refine z_ret (v := none) dX10_next_264 trivial (Nat.add_zero _).symm (Nat.add_zero _).symm rfl ?_
          have y1 : ¬ isL (h 249 s) = true := fun z => absurd (of_decide_eq_true z) b187
          have y2 : ¬ isD (h 249 s) = true := fun z => absurd (of_decide_eq_true z) b84
          have tE : tke (h 249) (h 240 16) s = s + 1 := (if_neg n0).trans ((if_neg y1).trans (if_neg y2))
          have tC : tkc (h 249) (h 240 16) s = if h 249 s = 59 then -2 else -3 := (if_neg n0).trans ((if_neg y1).trans (if_neg y2))
          rw [tE, tC] at hQ2
          first
            | (rw [if_pos (by omega)] at hQ2; exact hQ2)
            | (rw [if_neg (by omega)] at hQ2; exact hQ2)
        ·
          refine z_bipush dX10_next_254 ⟨by decide, by decide⟩ ?_
          refine z_goto (tgt := 261) dX10_next_256 (by decide) ?_
          refine y_puti (k' := 19) fl_X10_91 rfl dX10_next_261 sh_240 (by decide)  ?_
          rw [MH_w19]
          refine z_ret (v := none) dX10_next_264 trivial (Nat.add_zero _).symm (Nat.add_zero _).symm rfl ?_
          have y1 : ¬ isL (h 249 s) = true := fun z => absurd (of_decide_eq_true z) b187
          have y2 : ¬ isD (h 249 s) = true := fun z => absurd (of_decide_eq_true z) b84
          have tE : tke (h 249) (h 240 16) s = s + 1 := (if_neg n0).trans ((if_neg y1).trans (if_neg y2))
          have tC : tkc (h 249) (h 240 16) s = if h 249 s = 59 then -2 else -3 := (if_neg n0).trans ((if_neg y1).trans (if_neg y2))
          rw [tE, tC] at hQ2
          first
            | (rw [if_pos (by omega)] at hQ2; exact hQ2)
            | (rw [if_neg (by omega)] at hQ2; exact hQ2)
  ·
    refine z_aload_n dX10_next_57 rfl (by omega) ?_
    refine z_iconst dX10_next_58 ⟨by decide, by decide⟩ ?_
    refine y_puti (k' := 19) fl_X10_91 rfl dX10_next_59 sh_240 (by decide)  ?_
    rw [MH_w19]
    refine z_ret (v := none) dX10_next_62 trivial (Nat.add_zero _).symm (Nat.add_zero _).symm rfl ?_
    have tE : tke (h 249) (h 240 16) s = s := if_pos (by omega)
    have tC : tkc (h 249) (h 240 16) s = -1 := if_pos (by omega)
    rw [tE, tC] at hQ2
    exact hQ2
theorem qX10_must_1 {l : Launch} {g h G : zH} {Q : zQt} {a f c q : Int} (hg : zGd g) (hQ : Q none (SHL, g) (MH h G a f c q)) : zC l mX10_must [zr 240, zi 1] (SHL, g) (MH h G a f c q) Q := by
  refine z_method kX10_must.1 rfl (Nat.le_of_ble_eq_true rfl) (fun hok hh => ?_)
  refine z_iload_n dX10_must_0 rfl ?_
  refine z_if_ne (tgt := 21) dX10_must_1 (by decide) (fun _ => ?_) (fun q => False.elim (by omega))
  refine z_ret (v := none) dX10_must_21 trivial (Nat.add_zero _).symm (Nat.add_zero _).symm rfl ?_
  exact hQ
theorem qX10_must_0 {l : Launch} {g h G : zH} {Q : zQt} {a c q : Int} (hg : zGd g) (hQ : Q none (SHL, g) (MH h G a q c q)) : zC l mX10_must [zr 240, zi 0] (SHL, g) (MH h G a (-9) c q) Q := by
  refine z_method kX10_must.1 rfl (Nat.le_of_ble_eq_true rfl) (fun hok hh => ?_)
  refine z_iload_n dX10_must_0 rfl ?_
  refine z_if_ne (tgt := 21) dX10_must_1 (by decide) (fun q => False.elim (by omega)) (fun _ => ?_)
  refine z_aload_n dX10_must_4 rfl (by omega) ?_
  refine y_geti (k' := 18) fl_X10_42 rfl dX10_must_5 sh_240 (by decide) MH_r18 ?_
  refine z_bipush dX10_must_8 ⟨by decide, by decide⟩ ?_
  refine z_icmp_ne (tgt := 21) dX10_must_10 (by decide) (fun q => False.elim (by omega)) (fun _ => ?_)
  refine z_aload_n dX10_must_13 rfl (by omega) ?_
  refine z_aload_n dX10_must_14 rfl (by omega) ?_
  refine y_geti (k' := 20) fl_X10_88 rfl dX10_must_15 sh_240 (by decide) MH_r20 ?_
  refine y_puti (k' := 18) fl_X10_42 rfl dX10_must_18 sh_240 (by decide)  ?_
  rw [MH_w18]
  refine z_ret (v := none) dX10_must_21 trivial (Nat.add_zero _).symm (Nat.add_zero _).symm rfl ?_
  exact hQ
theorem qX10_goOn {l : Launch} {g h G : zH} {Q : zQt} {a c q : Int} (hg : zGd g) (hL : 0 ≤ h 240 16 ∧ h 240 16 ≤ 150) (hT : ∀ i, 0 ≤ i → i < h 240 16 → 0 ≤ h 249 i ∧ h 249 i ≤ 255) (a0 : 0 ≤ a) (a1 : a ≤ h 240 16) (hQ : Q none (SHL, g) (MH h G (ke (h 249) (h 240 16) a) (-9) (kc (h 249) (h 240 16) a) (ks (h 249) (h 240 16) a))) : zC l mX10_goOn [zr 240] (SHL, g) (MH h G a (-9) c q) Q := by
  refine z_method kX10_goOn.1 rfl (Nat.le_of_ble_eq_true rfl) (fun hok hh => ?_)
  refine z_aload_n dX10_goOn_0 rfl (by omega) ?_
  refine y_geti (k' := 18) fl_X10_42 rfl dX10_goOn_1 sh_240 (by decide) MH_r18 ?_
  refine z_bipush dX10_goOn_4 ⟨by decide, by decide⟩ ?_
  refine z_icmp_ne (tgt := 13) dX10_goOn_6 (by decide) (fun q => False.elim (by omega)) (fun _ => ?_)
  refine z_aload_n dX10_goOn_9 rfl (by omega) ?_
  refine z_callV (T := mX10_next) (As := []) kX10_next ml_X10_101 ⟨by decide, by decide⟩ dX10_goOn_10 rfl rfl (Nat.le_of_ble_eq_true rfl) sh_240 ⟨by decide, rfl⟩ (Nat.le_refl _) (Nat.le_refl _) (qX10_next hg hL hT a0 a1 ?_)
  refine z_ret (v := none) dX10_goOn_13 trivial (Nat.add_zero _).symm (Nat.add_zero _).symm rfl ?_
  exact hQ
theorem qX10_goOn_f {l : Launch} {g h G : zH} {Q : zQt} {a f c q : Int} (hg : zGd g) (hf : ¬ f = -9) (hQ : Q none (SHL, g) (MH h G a f c q)) : zC l mX10_goOn [zr 240] (SHL, g) (MH h G a f c q) Q := by
  refine z_method kX10_goOn.1 rfl (Nat.le_of_ble_eq_true rfl) (fun hok hh => ?_)
  refine z_aload_n dX10_goOn_0 rfl (by omega) ?_
  refine y_geti (k' := 18) fl_X10_42 rfl dX10_goOn_1 sh_240 (by decide) MH_r18 ?_
  refine z_bipush dX10_goOn_4 ⟨by decide, by decide⟩ ?_
  refine z_icmp_ne (tgt := 13) dX10_goOn_6 (by decide) (fun _ => ?_) (fun q => False.elim (by omega))
  refine z_ret (v := none) dX10_goOn_13 trivial (Nat.add_zero _).symm (Nat.add_zero _).symm rfl ?_
  exact hQ
theorem qX10_number {l : Launch} {g h G : zH} {Q : zQt} {a c q : Int} (hg : zGd g) (hL : 0 ≤ h 240 16 ∧ h 240 16 ≤ 150) (hT : ∀ i, 0 ≤ i → i < h 240 16 → 0 ≤ h 249 i ∧ h 249 i ≤ 255) {lo hi : Int} (a0 : 0 ≤ a) (a1 : a ≤ h 240 16) (q0 : 0 ≤ q) (h1 : (lo ≤ c ∧ c ≤ hi) → Q (some (zi c)) (SHL, g) (MH h G (ke (h 249) (h 240 16) a) (-9) (kc (h 249) (h 240 16) a) (ks (h 249) (h 240 16) a))) (h0 : ¬ (lo ≤ c ∧ c ≤ hi) → Q (some (zi c)) (SHL, g) (MH h G a q c q)) : zC l mX10_number [zr 240, zi lo, zi hi] (SHL, g) (MH h G a (-9) c q) Q := by
  refine z_method kX10_number.1 rfl (Nat.le_of_ble_eq_true rfl) (fun hok hh => ?_)
  refine z_aload_n dX10_number_0 rfl (by omega) ?_
  refine z_aload_n dX10_number_1 rfl (by omega) ?_
  refine y_geti (k' := 18) fl_X10_42 rfl dX10_number_2 sh_240 (by decide) MH_r18 ?_
  refine z_bipush dX10_number_5 ⟨by decide, by decide⟩ ?_
  refine z_icmp_ne (tgt := 25) dX10_number_7 (by decide) (fun q => False.elim (by omega)) (fun _ => ?_)
  refine z_aload_n dX10_number_10 rfl (by omega) ?_
  refine y_geti (k' := 19) fl_X10_91 rfl dX10_number_11 sh_240 (by decide) MH_r19 ?_
  refine z_i2l dX10_number_14 ?_
  refine z_iload_n dX10_number_15 rfl ?_
  refine z_i2l dX10_number_16 ?_
  refine z_iload_n dX10_number_17 rfl ?_
  refine z_i2l dX10_number_18 ?_
  refine z_callS (T := mX10_in) (As := [_, _, _]) kX10_in ml_X10_69 ⟨by decide, by decide⟩ dX10_number_19 rfl rfl (Nat.le_of_ble_eq_true rfl) (Nat.le_refl _) (Nat.le_refl _) (qX10_in (fun b19 => ?_) (fun b19 => ?_))
  ·
    refine z_if_eq (tgt := 29) dX10_number_22 (by decide) (fun q => False.elim (by omega)) (fun _ => ?_)
    refine z_iconst dX10_number_25 ⟨by decide, by decide⟩ ?_
    refine z_goto (tgt := 30) dX10_number_26 (by decide) ?_
    refine z_callV (T := mX10_must) (As := [_]) kX10_must ml_X10_104 ⟨by decide, by decide⟩ dX10_number_30 rfl rfl (Nat.le_of_ble_eq_true rfl) sh_240 ⟨by decide, rfl⟩ (Nat.le_refl _) (Nat.le_refl _) (qX10_must_1 hg ?_)
    refine z_aload_n dX10_number_33 rfl (by omega) ?_
    refine y_geti (k' := 19) fl_X10_91 rfl dX10_number_34 sh_240 (by decide) MH_r19 ?_
    refine z_istore_n dX10_number_37 (by decide) rfl lss_4_3 ?_
    refine z_aload_n dX10_number_38 rfl (by omega) ?_
    refine z_callV (T := mX10_goOn) (As := []) kX10_goOn ml_X10_108 ⟨by decide, by decide⟩ dX10_number_39 rfl rfl (Nat.le_of_ble_eq_true rfl) sh_240 ⟨by decide, rfl⟩ (Nat.le_refl _) (Nat.le_refl _) (qX10_goOn hg hL hT a0 a1 ?_)
    refine z_iload_n dX10_number_42 rfl ?_
    refine z_ret (v := some (zi _)) dX10_number_43 trivial (Nat.add_zero _).symm (Nat.add_zero _).symm rfl ?_
    first
      | exact h1 b19
      | exact h0 b19
  ·
    refine z_if_eq (tgt := 29) dX10_number_22 (by decide) (fun _ => ?_) (fun q => False.elim (by omega))
    refine z_iconst dX10_number_29 ⟨by decide, by decide⟩ ?_
    refine z_callV (T := mX10_must) (As := [_]) kX10_must ml_X10_104 ⟨by decide, by decide⟩ dX10_number_30 rfl rfl (Nat.le_of_ble_eq_true rfl) sh_240 ⟨by decide, rfl⟩ (Nat.le_refl _) (Nat.le_refl _) (qX10_must_0 hg ?_)
    refine z_aload_n dX10_number_33 rfl (by omega) ?_
    refine y_geti (k' := 19) fl_X10_91 rfl dX10_number_34 sh_240 (by decide) MH_r19 ?_
    refine z_istore_n dX10_number_37 (by decide) rfl lss_4_3 ?_
    refine z_aload_n dX10_number_38 rfl (by omega) ?_
    refine z_callV (T := mX10_goOn) (As := []) kX10_goOn ml_X10_108 ⟨by decide, by decide⟩ dX10_number_39 rfl rfl (Nat.le_of_ble_eq_true rfl) sh_240 ⟨by decide, rfl⟩ (Nat.le_refl _) (Nat.le_refl _) (qX10_goOn_f hg (by omega) ?_)
    refine z_iload_n dX10_number_42 rfl ?_
    refine z_ret (v := some (zi _)) dX10_number_43 trivial (Nat.add_zero _).symm (Nat.add_zero _).symm rfl ?_
    first
      | exact h1 b19
      | exact h0 b19
theorem qX10_number_f {l : Launch} {g h G : zH} {Q : zQt} {a f c q : Int} (hg : zGd g) {lo hi : Int} (hf : ¬ f = -9) (hQ : Q (some (zi c)) (SHL, g) (MH h G a f c q)) : zC l mX10_number [zr 240, zi lo, zi hi] (SHL, g) (MH h G a f c q) Q := by
  refine z_method kX10_number.1 rfl (Nat.le_of_ble_eq_true rfl) (fun hok hh => ?_)
  refine z_aload_n dX10_number_0 rfl (by omega) ?_
  refine z_aload_n dX10_number_1 rfl (by omega) ?_
  refine y_geti (k' := 18) fl_X10_42 rfl dX10_number_2 sh_240 (by decide) MH_r18 ?_
  refine z_bipush dX10_number_5 ⟨by decide, by decide⟩ ?_
  refine z_icmp_ne (tgt := 25) dX10_number_7 (by decide) (fun _ => ?_) (fun q => False.elim (by omega))
  refine z_iconst dX10_number_25 ⟨by decide, by decide⟩ ?_
  refine z_goto (tgt := 30) dX10_number_26 (by decide) ?_
  refine z_callV (T := mX10_must) (As := [_]) kX10_must ml_X10_104 ⟨by decide, by decide⟩ dX10_number_30 rfl rfl (Nat.le_of_ble_eq_true rfl) sh_240 ⟨by decide, rfl⟩ (Nat.le_refl _) (Nat.le_refl _) (qX10_must_1 hg ?_)
  refine z_aload_n dX10_number_33 rfl (by omega) ?_
  refine y_geti (k' := 19) fl_X10_91 rfl dX10_number_34 sh_240 (by decide) MH_r19 ?_
  refine z_istore_n dX10_number_37 (by decide) rfl lss_4_3 ?_
  refine z_aload_n dX10_number_38 rfl (by omega) ?_
  refine z_callV (T := mX10_goOn) (As := []) kX10_goOn ml_X10_108 ⟨by decide, by decide⟩ dX10_number_39 rfl rfl (Nat.le_of_ble_eq_true rfl) sh_240 ⟨by decide, rfl⟩ (Nat.le_refl _) (Nat.le_refl _) (qX10_goOn_f hg hf ?_)
  refine z_iload_n dX10_number_42 rfl ?_
  refine z_ret (v := some (zi _)) dX10_number_43 trivial (Nat.add_zero _).symm (Nat.add_zero _).symm rfl ?_
  exact hQ
theorem qX10_unlike {l : Launch} {g h G : zH} {Q : zQt} {a c q : Int} (hg : zGd g) (hL : 0 ≤ h 240 16 ∧ h 240 16 ≤ 150) (hT : ∀ i, 0 ≤ i → i < h 240 16 → 0 ≤ h 249 i ∧ h 249 i ≤ 255) {hi o : Int} (a0 : 0 ≤ a) (a1 : a ≤ h 240 16) (q0 : 0 ≤ q) (h1 : (0 ≤ c ∧ c ≤ hi) → ¬ o = c → Q (some (zi c)) (SHL, g) (MH h G (ke (h 249) (h 240 16) a) (-9) (kc (h 249) (h 240 16) a) (ks (h 249) (h 240 16) a))) (h0 : ¬ (0 ≤ c ∧ c ≤ hi) → Q (some (zi c)) (SHL, g) (MH h G a q c q)) (h2 : (0 ≤ c ∧ c ≤ hi) → o = c → Q (some (zi c)) (SHL, g) (MH h G a q c q)) : zC l mX10_unlike [zr 240, zi hi, zi o] (SHL, g) (MH h G a (-9) c q) Q := by
  refine z_method kX10_unlike.1 rfl (Nat.le_of_ble_eq_true rfl) (fun hok hh => ?_)
  refine z_aload_n dX10_unlike_0 rfl (by omega) ?_
  refine z_aload_n dX10_unlike_1 rfl (by omega) ?_
  refine y_geti (k' := 18) fl_X10_42 rfl dX10_unlike_2 sh_240 (by decide) MH_r18 ?_
  refine z_bipush dX10_unlike_5 ⟨by decide, by decide⟩ ?_
  refine z_icmp_ne (tgt := 32) dX10_unlike_7 (by decide) (fun q => False.elim (by omega)) (fun _ => ?_)
  refine z_aload_n dX10_unlike_10 rfl (by omega) ?_
  refine y_geti (k' := 19) fl_X10_91 rfl dX10_unlike_11 sh_240 (by decide) MH_r19 ?_
  refine z_i2l dX10_unlike_14 ?_
  refine z_lconst0 dX10_unlike_15 ?_
  refine z_iload_n dX10_unlike_16 rfl ?_
  refine z_i2l dX10_unlike_17 ?_
  refine z_callS (T := mX10_in) (As := [_, _, _]) kX10_in ml_X10_69 ⟨by decide, by decide⟩ dX10_unlike_18 rfl rfl (Nat.le_of_ble_eq_true rfl) (Nat.le_refl _) (Nat.le_refl _) (qX10_in (fun b18 => ?_) (fun b18 => ?_))
  ·
    refine z_if_eq (tgt := 36) dX10_unlike_21 (by decide) (fun q => False.elim (by omega)) (fun _ => ?_)
    refine z_aload_n dX10_unlike_24 rfl (by omega) ?_
    refine y_geti (k' := 19) fl_X10_91 rfl dX10_unlike_25 sh_240 (by decide) MH_r19 ?_
    refine z_iload_n dX10_unlike_28 rfl ?_
    refine z_icmp_eq (tgt := 36) dX10_unlike_29 (by decide) (fun c29 => ?_) (fun c29 => ?_)
    ·
      refine z_iconst dX10_unlike_36 ⟨by decide, by decide⟩ ?_
      refine z_callV (T := mX10_must) (As := [_]) kX10_must ml_X10_104 ⟨by decide, by decide⟩ dX10_unlike_37 rfl rfl (Nat.le_of_ble_eq_true rfl) sh_240 ⟨by decide, rfl⟩ (Nat.le_refl _) (Nat.le_refl _) (qX10_must_0 hg ?_)
      refine z_aload_n dX10_unlike_40 rfl (by omega) ?_
      refine y_geti (k' := 19) fl_X10_91 rfl dX10_unlike_41 sh_240 (by decide) MH_r19 ?_
      refine z_istore_n dX10_unlike_44 (by decide) rfl lss_4_3 ?_
      refine z_aload_n dX10_unlike_45 rfl (by omega) ?_
      refine z_callV (T := mX10_goOn) (As := []) kX10_goOn ml_X10_108 ⟨by decide, by decide⟩ dX10_unlike_46 rfl rfl (Nat.le_of_ble_eq_true rfl) sh_240 ⟨by decide, rfl⟩ (Nat.le_refl _) (Nat.le_refl _) (qX10_goOn_f hg (by omega) ?_)
      refine z_iload_n dX10_unlike_49 rfl ?_
      refine z_ret (v := some (zi _)) dX10_unlike_50 trivial (Nat.add_zero _).symm (Nat.add_zero _).symm rfl ?_
      first
        | exact h1 b18 (by omega)
        | exact h2 b18 (by omega)
        | exact h0 b18
    ·
      refine z_iconst dX10_unlike_32 ⟨by decide, by decide⟩ ?_
      refine z_goto (tgt := 37) dX10_unlike_33 (by decide) ?_
      refine z_callV (T := mX10_must) (As := [_]) kX10_must ml_X10_104 ⟨by decide, by decide⟩ dX10_unlike_37 rfl rfl (Nat.le_of_ble_eq_true rfl) sh_240 ⟨by decide, rfl⟩ (Nat.le_refl _) (Nat.le_refl _) (qX10_must_1 hg ?_)
      refine z_aload_n dX10_unlike_40 rfl (by omega) ?_
      refine y_geti (k' := 19) fl_X10_91 rfl dX10_unlike_41 sh_240 (by decide) MH_r19 ?_
      refine z_istore_n dX10_unlike_44 (by decide) rfl lss_4_3 ?_
      refine z_aload_n dX10_unlike_45 rfl (by omega) ?_
      refine z_callV (T := mX10_goOn) (As := []) kX10_goOn ml_X10_108 ⟨by decide, by decide⟩ dX10_unlike_46 rfl rfl (Nat.le_of_ble_eq_true rfl) sh_240 ⟨by decide, rfl⟩ (Nat.le_refl _) (Nat.le_refl _) (qX10_goOn hg hL hT a0 a1 ?_)
      refine z_iload_n dX10_unlike_49 rfl ?_
      refine z_ret (v := some (zi _)) dX10_unlike_50 trivial (Nat.add_zero _).symm (Nat.add_zero _).symm rfl ?_
      first
        | exact h1 b18 (by omega)
        | exact h2 b18 (by omega)
        | exact h0 b18
  ·
    refine z_if_eq (tgt := 36) dX10_unlike_21 (by decide) (fun _ => ?_) (fun q => False.elim (by omega))
    refine z_iconst dX10_unlike_36 ⟨by decide, by decide⟩ ?_
    refine z_callV (T := mX10_must) (As := [_]) kX10_must ml_X10_104 ⟨by decide, by decide⟩ dX10_unlike_37 rfl rfl (Nat.le_of_ble_eq_true rfl) sh_240 ⟨by decide, rfl⟩ (Nat.le_refl _) (Nat.le_refl _) (qX10_must_0 hg ?_)
    refine z_aload_n dX10_unlike_40 rfl (by omega) ?_
    refine y_geti (k' := 19) fl_X10_91 rfl dX10_unlike_41 sh_240 (by decide) MH_r19 ?_
    refine z_istore_n dX10_unlike_44 (by decide) rfl lss_4_3 ?_
    refine z_aload_n dX10_unlike_45 rfl (by omega) ?_
    refine z_callV (T := mX10_goOn) (As := []) kX10_goOn ml_X10_108 ⟨by decide, by decide⟩ dX10_unlike_46 rfl rfl (Nat.le_of_ble_eq_true rfl) sh_240 ⟨by decide, rfl⟩ (Nat.le_refl _) (Nat.le_refl _) (qX10_goOn_f hg (by omega) ?_)
    refine z_iload_n dX10_unlike_49 rfl ?_
    refine z_ret (v := some (zi _)) dX10_unlike_50 trivial (Nat.add_zero _).symm (Nat.add_zero _).symm rfl ?_
    first
      | exact h1 b18 (by omega)
      | exact h2 b18 (by omega)
      | exact h0 b18
theorem qX10_unlike_f {l : Launch} {g h G : zH} {Q : zQt} {a f c q : Int} (hg : zGd g) {hi o : Int} (hf : ¬ f = -9) (hQ : Q (some (zi c)) (SHL, g) (MH h G a f c q)) : zC l mX10_unlike [zr 240, zi hi, zi o] (SHL, g) (MH h G a f c q) Q := by
  refine z_method kX10_unlike.1 rfl (Nat.le_of_ble_eq_true rfl) (fun hok hh => ?_)
  refine z_aload_n dX10_unlike_0 rfl (by omega) ?_
  refine z_aload_n dX10_unlike_1 rfl (by omega) ?_
  refine y_geti (k' := 18) fl_X10_42 rfl dX10_unlike_2 sh_240 (by decide) MH_r18 ?_
  refine z_bipush dX10_unlike_5 ⟨by decide, by decide⟩ ?_
  refine z_icmp_ne (tgt := 32) dX10_unlike_7 (by decide) (fun _ => ?_) (fun q => False.elim (by omega))
  refine z_iconst dX10_unlike_32 ⟨by decide, by decide⟩ ?_
  refine z_goto (tgt := 37) dX10_unlike_33 (by decide) ?_
  refine z_callV (T := mX10_must) (As := [_]) kX10_must ml_X10_104 ⟨by decide, by decide⟩ dX10_unlike_37 rfl rfl (Nat.le_of_ble_eq_true rfl) sh_240 ⟨by decide, rfl⟩ (Nat.le_refl _) (Nat.le_refl _) (qX10_must_1 hg ?_)
  refine z_aload_n dX10_unlike_40 rfl (by omega) ?_
  refine y_geti (k' := 19) fl_X10_91 rfl dX10_unlike_41 sh_240 (by decide) MH_r19 ?_
  refine z_istore_n dX10_unlike_44 (by decide) rfl lss_4_3 ?_
  refine z_aload_n dX10_unlike_45 rfl (by omega) ?_
  refine z_callV (T := mX10_goOn) (As := []) kX10_goOn ml_X10_108 ⟨by decide, by decide⟩ dX10_unlike_46 rfl rfl (Nat.le_of_ble_eq_true rfl) sh_240 ⟨by decide, rfl⟩ (Nat.le_refl _) (Nat.le_refl _) (qX10_goOn_f hg hf ?_)
  refine z_iload_n dX10_unlike_49 rfl ?_
  refine z_ret (v := some (zi _)) dX10_unlike_50 trivial (Nat.add_zero _).symm (Nat.add_zero _).symm rfl ?_
  exact hQ
theorem qX10_end {l : Launch} {g h G : zH} {Q : zQt} {a c q : Int} (hg : zGd g) (hL : 0 ≤ h 240 16 ∧ h 240 16 ≤ 150) (hT : ∀ i, 0 ≤ i → i < h 240 16 → 0 ≤ h 249 i ∧ h 249 i ≤ 255) (a0 : 0 ≤ a) (a1 : a ≤ h 240 16) (q0 : 0 ≤ q) (h1 : c = -2 → Q none (SHL, g) (MH h G (ke (h 249) (h 240 16) a) (-9) (kc (h 249) (h 240 16) a) (ks (h 249) (h 240 16) a))) (h0 : ¬ c = -2 → Q none (SHL, g) (MH h G a q c q)) : zC l mX10_end [zr 240] (SHL, g) (MH h G a (-9) c q) Q := by
  refine z_method kX10_end.1 rfl (Nat.le_of_ble_eq_true rfl) (fun hok hh => ?_)
  refine z_aload_n dX10_end_0 rfl (by omega) ?_
  refine z_aload_n dX10_end_1 rfl (by omega) ?_
  refine y_geti (k' := 18) fl_X10_42 rfl dX10_end_2 sh_240 (by decide) MH_r18 ?_
  refine z_bipush dX10_end_5 ⟨by decide, by decide⟩ ?_
  refine z_icmp_ne (tgt := 19) dX10_end_7 (by decide) (fun q => False.elim (by omega)) (fun _ => ?_)
  refine z_aload_n dX10_end_10 rfl (by omega) ?_
  refine y_geti (k' := 19) fl_X10_91 rfl dX10_end_11 sh_240 (by decide) MH_r19 ?_
  refine z_bipush dX10_end_14 ⟨by decide, by decide⟩ ?_
  refine z_icmp_ne (tgt := 23) dX10_end_16 (by decide) (fun c16 => ?_) (fun c16 => ?_)
  ·
    refine z_iconst dX10_end_23 ⟨by decide, by decide⟩ ?_
    refine z_callV (T := mX10_must) (As := [_]) kX10_must ml_X10_104 ⟨by decide, by decide⟩ dX10_end_24 rfl rfl (Nat.le_of_ble_eq_true rfl) sh_240 ⟨by decide, rfl⟩ (Nat.le_refl _) (Nat.le_refl _) (qX10_must_0 hg ?_)
    refine z_aload_n dX10_end_27 rfl (by omega) ?_
    refine z_callV (T := mX10_goOn) (As := []) kX10_goOn ml_X10_108 ⟨by decide, by decide⟩ dX10_end_28 rfl rfl (Nat.le_of_ble_eq_true rfl) sh_240 ⟨by decide, rfl⟩ (Nat.le_refl _) (Nat.le_refl _) (qX10_goOn_f hg (by omega) ?_)
    refine z_ret (v := none) dX10_end_31 trivial (Nat.add_zero _).symm (Nat.add_zero _).symm rfl ?_
    first
      | exact h1 (by omega)
      | exact h0 (by omega)
  ·
    refine z_iconst dX10_end_19 ⟨by decide, by decide⟩ ?_
    refine z_goto (tgt := 24) dX10_end_20 (by decide) ?_
    refine z_callV (T := mX10_must) (As := [_]) kX10_must ml_X10_104 ⟨by decide, by decide⟩ dX10_end_24 rfl rfl (Nat.le_of_ble_eq_true rfl) sh_240 ⟨by decide, rfl⟩ (Nat.le_refl _) (Nat.le_refl _) (qX10_must_1 hg ?_)
    refine z_aload_n dX10_end_27 rfl (by omega) ?_
    refine z_callV (T := mX10_goOn) (As := []) kX10_goOn ml_X10_108 ⟨by decide, by decide⟩ dX10_end_28 rfl rfl (Nat.le_of_ble_eq_true rfl) sh_240 ⟨by decide, rfl⟩ (Nat.le_refl _) (Nat.le_refl _) (qX10_goOn hg hL hT a0 a1 ?_)
    refine z_ret (v := none) dX10_end_31 trivial (Nat.add_zero _).symm (Nat.add_zero _).symm rfl ?_
    first
      | exact h1 (by omega)
      | exact h0 (by omega)
theorem qX10_end_f {l : Launch} {g h G : zH} {Q : zQt} {a f c q : Int} (hg : zGd g) (hf : ¬ f = -9) (hQ : Q none (SHL, g) (MH h G a f c q)) : zC l mX10_end [zr 240] (SHL, g) (MH h G a f c q) Q := by
  refine z_method kX10_end.1 rfl (Nat.le_of_ble_eq_true rfl) (fun hok hh => ?_)
  refine z_aload_n dX10_end_0 rfl (by omega) ?_
  refine z_aload_n dX10_end_1 rfl (by omega) ?_
  refine y_geti (k' := 18) fl_X10_42 rfl dX10_end_2 sh_240 (by decide) MH_r18 ?_
  refine z_bipush dX10_end_5 ⟨by decide, by decide⟩ ?_
  refine z_icmp_ne (tgt := 19) dX10_end_7 (by decide) (fun _ => ?_) (fun q => False.elim (by omega))
  refine z_iconst dX10_end_19 ⟨by decide, by decide⟩ ?_
  refine z_goto (tgt := 24) dX10_end_20 (by decide) ?_
  refine z_callV (T := mX10_must) (As := [_]) kX10_must ml_X10_104 ⟨by decide, by decide⟩ dX10_end_24 rfl rfl (Nat.le_of_ble_eq_true rfl) sh_240 ⟨by decide, rfl⟩ (Nat.le_refl _) (Nat.le_refl _) (qX10_must_1 hg ?_)
  refine z_aload_n dX10_end_27 rfl (by omega) ?_
  refine z_callV (T := mX10_goOn) (As := []) kX10_goOn ml_X10_108 ⟨by decide, by decide⟩ dX10_end_28 rfl rfl (Nat.le_of_ble_eq_true rfl) sh_240 ⟨by decide, rfl⟩ (Nat.le_refl _) (Nat.le_refl _) (qX10_goOn_f hg hf ?_)
  refine z_ret (v := none) dX10_end_31 trivial (Nat.add_zero _).symm (Nat.add_zero _).symm rfl ?_
  exact hQ
