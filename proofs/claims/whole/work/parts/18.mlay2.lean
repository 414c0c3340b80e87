/-! The ways of the reference: the walk. -/
theorem MB_hf {h : zH} {f : Int → Int} (hm : MB h) : MB (hf h f) := hm
theorem mayM_hf {h : zH} {f : Int → Int} {d p : Int} : mayM (hf h f) d p ↔ mayM h d p := Iff.rfl
abbrev BL : Nat × Nat → Prop := fun _ => True
theorem stX10_lay {l : Launch} {g h : zH} {Q : zQt} {d m a b side : Int} {f : Int → Int} {i : Nat} {x5 x6 x7 : Option zV} (hg : zGd g) (hm : MB h) (d0 : 0 ≤ d) (d1 : d < h 240 3) (hi : (i : Int) < h 240 1) (hfi : ∀ r, 0 ≤ r → r < 8 → f r = -9 ∨ (0 ≤ f r ∧ f r ≤ 252007)) (hs : side = 0 ∨ side = 1) (ha : h 241 (3 * (i : Int) + side) = a) (hb : h 241 (3 * (i : Int) + 1 - side) = b)
    (K : ∀ (f' : Int → Int) (m' : Int), LSt h d a b (100 * h 244 (4 * d + 1) * h 241 (3 * (i : Int) + 2) + 1) f f' m m' (mayM h d i) → ∀ x5 x6 x7, zW zX0 l mX10_lay ((SHL, g).1.length + zmc mX10_lay) (ztot (SHL, g) + zms mX10_lay) Q 177 [some (zr 240), some (zi d), some (zi m'), some (zi (i : Int)), some (zi side), x5, x6, x7] [] (SHL, g) (hf h f')) :
    zW zX0 l mX10_lay ((SHL, g).1.length + zmc mX10_lay) (ztot (SHL, g) + zms mX10_lay) Q 61 [some (zr 240), some (zi d), some (zi m), some (zi (i : Int)), some (zi side), x5, x6, x7] [] (SHL, g) (hf h f) := by
  obtain ⟨m0, m1, m2, m3, m4, m5, m6, m7⟩ := hm.1
  have f1 := nb0 hm.2.2.2.2.1 d0 d1
  have g1 := hm.2.1 i (by omega) (by omega)
  have g2 := mulb f1.2.1.1 f1.2.1.2 g1.2.2.1 g1.2.2.2
  have g3 : 100 * h 244 (4 * d + 1) * h 241 (3 * (i : Int) + 2) = 100 * (h 244 (4 * d + 1) * h 241 (3 * (i : Int) + 2)) := Int.mul_assoc _ _ _
  have a8 : 0 ≤ a ∧ a < 8 := by
    rcases hs with rfl | rfl
    · rw [Int.add_zero] at ha; omega
    · omega
  have b8 : 0 ≤ b ∧ b < 8 := by
    rcases hs with rfl | rfl
    · rw [Int.sub_zero] at hb; omega
    · rw [show 3 * (i : Int) + 1 - 1 = 3 * (i : Int) by omega] at hb; omega
  have fa := hfi a a8.1 a8.2
  have fb := hfi b b8.1 b8.2
  refine z_aload_n dX10_lay_61 rfl (by omega) ?_
  refine y_geta (k' := 2) fl_X10_13 rfl dX10_lay_62 sh_240 (by decide) (gf_240_2 hg) ?_
  refine z_iconst dX10_lay_65 ⟨by decide, by decide⟩ ?_
  refine z_iload_n dX10_lay_66 rfl ?_
  refine y_imul dX10_lay_67 (by omega) (by omega) ?_
  refine z_iload dX10_lay_68 rfl ?_
  refine y_iadd dX10_lay_70 (by omega) (by omega) ?_
  refine z_iaload dX10_lay_71 sh_241 (by omega) (by omega) ((hf_ne (by decide)).trans ha) ?_
  refine z_istore dX10_lay_72 (by decide) rfl lss_8_5 ?_
  refine z_aload_n dX10_lay_74 rfl (by omega) ?_
  refine y_geta (k' := 2) fl_X10_13 rfl dX10_lay_75 sh_240 (by decide) (gf_240_2 hg) ?_
  refine z_iconst dX10_lay_78 ⟨by decide, by decide⟩ ?_
  refine z_iload_n dX10_lay_79 rfl ?_
  refine y_imul dX10_lay_80 (by omega) (by omega) ?_
  refine z_iconst dX10_lay_81 ⟨by decide, by decide⟩ ?_
  refine y_iadd dX10_lay_82 (by omega) (by omega) ?_
  refine z_iload dX10_lay_83 rfl ?_
  refine y_isub dX10_lay_85 (by omega) (by omega) ?_
  refine z_iaload dX10_lay_86 sh_241 (by omega) (by omega) ((hf_ne (by decide)).trans hb) ?_
  refine z_istore dX10_lay_87 (by decide) rfl lss_8_6 ?_
  refine z_aload_n dX10_lay_89 rfl (by omega) ?_
  refine y_geta (k' := 30) fl_X10_60 rfl dX10_lay_90 sh_240 (by decide) (gf_240_30 hg) ?_
  refine z_iload dX10_lay_93 rfl ?_
  refine z_iaload dX10_lay_95 sh_255 (by omega) (by omega) (hf_at (by omega) (by omega)) ?_
  refine z_bipush dX10_lay_96 ⟨by decide, by decide⟩ ?_
  refine z_aload_n dX10_lay_98 rfl (by omega) ?_
  refine z_iload_n dX10_lay_99 rfl ?_
  refine z_iconst dX10_lay_100 ⟨by decide, by decide⟩ ?_
  refine z_callV (T := mX10_of) (As := [_, _]) kX10_of ml_X10_76 ⟨by decide, by decide⟩ dX10_lay_101 rfl rfl (Nat.le_of_ble_eq_true rfl) sh_240 ⟨by decide, rfl⟩ (Nat.le_refl _) (Nat.le_refl _) (qX10_of hg (by omega) (by omega) (by omega) (by omega) (hf_ne (by decide)) ?_)
  refine y_imul dX10_lay_104 (by omega) (by omega) ?_
  refine z_aload_n dX10_lay_105 rfl (by omega) ?_
  refine y_geta (k' := 2) fl_X10_13 rfl dX10_lay_106 sh_240 (by decide) (gf_240_2 hg) ?_
  refine z_iconst dX10_lay_109 ⟨by decide, by decide⟩ ?_
  refine z_iload_n dX10_lay_110 rfl ?_
  refine y_imul dX10_lay_111 (by omega) (by omega) ?_
  refine z_iconst dX10_lay_112 ⟨by decide, by decide⟩ ?_
  refine y_iadd dX10_lay_113 (by omega) (by omega) ?_
  refine z_iaload dX10_lay_114 sh_241 (by omega) (by omega) (hf_ne (by decide)) ?_
  refine y_imul dX10_lay_115 (by omega) (by omega) ?_
  refine y_iadd dX10_lay_116 (by omega) (by omega) ?_
  refine z_iconst dX10_lay_117 ⟨by decide, by decide⟩ ?_
  refine y_iadd dX10_lay_118 (by omega) (by omega) ?_
  refine z_istore dX10_lay_119 (by decide) rfl lss_8_7 ?_
  refine z_aload_n dX10_lay_121 rfl (by omega) ?_
  refine y_geta (k' := 30) fl_X10_60 rfl dX10_lay_122 sh_240 (by decide) (gf_240_30 hg) ?_
  refine z_iload dX10_lay_125 rfl ?_
  refine z_iaload dX10_lay_127 sh_255 (by omega) (by omega) (hf_at (by omega) (by omega)) ?_
  refine z_bipush dX10_lay_128 ⟨by decide, by decide⟩ ?_
  refine z_icmp_eq (tgt := 177) dX10_lay_130 (by decide) (fun c130 => ?_) (fun c130 => ?_)
  ·
    exact K f m (Or.inr ⟨rfl, rfl, Or.inl c130⟩) _ _ _
  ·
    refine z_aload_n dX10_lay_133 rfl (by omega) ?_
    refine z_iload_n dX10_lay_134 rfl ?_
    refine z_iload_n dX10_lay_135 rfl ?_
    refine z_callV (T := mX10_may) (As := [_, _]) kX10_may ml_X10_164 ⟨by decide, by decide⟩ dX10_lay_136 rfl rfl (Nat.le_of_ble_eq_true rfl) sh_240 ⟨by decide, rfl⟩ (Nat.le_refl _) (Nat.le_refl _) (qX10_may hg (MB_hf hm) (by omega) (by exact d1) (by omega) (by exact hi) (fun b136 => ?_) (fun b136 => ?_))
    ·
      refine z_if_eq (tgt := 177) dX10_lay_139 (by decide) (fun q => False.elim (by omega)) (fun _ => ?_)
      refine z_aload_n dX10_lay_142 rfl (by omega) ?_
      refine y_geta (k' := 30) fl_X10_60 rfl dX10_lay_143 sh_240 (by decide) (gf_240_30 hg) ?_
      refine z_iload dX10_lay_146 rfl ?_
      refine z_iaload dX10_lay_148 sh_255 (by omega) (by omega) (hf_at (by omega) (by omega)) ?_
      refine z_bipush dX10_lay_149 ⟨by decide, by decide⟩ ?_
      refine z_icmp_eq (tgt := 166) dX10_lay_151 (by decide) (fun c151 => ?_) (fun c151 => ?_)
      ·
        refine z_aload_n dX10_lay_166 rfl (by omega) ?_
        refine y_geta (k' := 30) fl_X10_60 rfl dX10_lay_167 sh_240 (by decide) (gf_240_30 hg) ?_
        refine z_iload dX10_lay_170 rfl ?_
        refine z_iload dX10_lay_172 rfl ?_
        refine z_iastore dX10_lay_174 sh_255 (by omega) (by omega) ?_
        refine z_iconst dX10_lay_175 ⟨by decide, by decide⟩ ?_
        refine z_istore_n dX10_lay_176 (by decide) rfl lss_8_2 ?_
        first
          | (rw [hf_up b8.1 b8.2, Int.add_assoc (f a)]
             exact K _ 1 (Or.inl ⟨rfl, rfl, c130, b136, by omega⟩) _ _ _)
          | exact K f m (Or.inr ⟨rfl, rfl, Or.inr (Or.inl b136)⟩) _ _ _
          | exact K f m (Or.inr ⟨rfl, rfl, Or.inr (Or.inr ⟨c151, by omega⟩)⟩) _ _ _
      ·
        refine z_iload dX10_lay_154 rfl ?_
        refine z_aload_n dX10_lay_156 rfl (by omega) ?_
        refine y_geta (k' := 30) fl_X10_60 rfl dX10_lay_157 sh_240 (by decide) (gf_240_30 hg) ?_
        refine z_iload dX10_lay_160 rfl ?_
        refine z_iaload dX10_lay_162 sh_255 (by omega) (by omega) (hf_at (by omega) (by omega)) ?_
        refine z_icmp_ge (tgt := 177) dX10_lay_163 (by decide) (fun c163 => ?_) (fun c163 => ?_)
        ·
          first
            | (rw [hf_up b8.1 b8.2, Int.add_assoc (f a)]
               exact K _ 1 (Or.inl ⟨rfl, rfl, c130, b136, by omega⟩) _ _ _)
            | exact K f m (Or.inr ⟨rfl, rfl, Or.inr (Or.inl b136)⟩) _ _ _
            | exact K f m (Or.inr ⟨rfl, rfl, Or.inr (Or.inr ⟨c151, by omega⟩)⟩) _ _ _
        ·
          refine z_aload_n dX10_lay_166 rfl (by omega) ?_
          refine y_geta (k' := 30) fl_X10_60 rfl dX10_lay_167 sh_240 (by decide) (gf_240_30 hg) ?_
          refine z_iload dX10_lay_170 rfl ?_
          refine z_iload dX10_lay_172 rfl ?_
          refine z_iastore dX10_lay_174 sh_255 (by omega) (by omega) ?_
          refine z_iconst dX10_lay_175 ⟨by decide, by decide⟩ ?_
          refine z_istore_n dX10_lay_176 (by decide) rfl lss_8_2 ?_
          first
            | (rw [hf_up b8.1 b8.2, Int.add_assoc (f a)]
               exact K _ 1 (Or.inl ⟨rfl, rfl, c130, b136, by omega⟩) _ _ _)
            | exact K f m (Or.inr ⟨rfl, rfl, Or.inr (Or.inl b136)⟩) _ _ _
            | exact K f m (Or.inr ⟨rfl, rfl, Or.inr (Or.inr ⟨c151, by omega⟩)⟩) _ _ _
    ·
      refine z_if_eq (tgt := 177) dX10_lay_139 (by decide) (fun _ => ?_) (fun q => False.elim (by omega))
      first
        | (rw [hf_up b8.1 b8.2, Int.add_assoc (f a)]
           exact K _ 1 (Or.inl ⟨rfl, rfl, c130, b136, by omega⟩) _ _ _)
        | exact K f m (Or.inr ⟨rfl, rfl, Or.inr (Or.inl b136)⟩) _ _ _
        | exact K f m (Or.inr ⟨rfl, rfl, Or.inr (Or.inr ⟨c151, by omega⟩)⟩) _ _ _
theorem lpX10_lay1 {l : Launch} {g h : zH} {Q : zQt} {d : Int} {f0 : Int → Int} (hg : zGd g) (hm : MB h) (d0 : 0 ≤ d) (d1 : d < h 240 3)
    (K : ∀ (f : Int → Int) (m : Int), LPc h d f0 f m (h 240 1).toNat → ∀ x3 x4 x5 x6 x7, zW zX0 l mX10_lay ((SHL, g).1.length + zmc mX10_lay) (ztot (SHL, g) + zms mX10_lay) Q 189 [some (zr 240), some (zi d), some (zi m), x3, x4, x5, x6, x7] [] (SHL, g) (hf h f)) :
    ∀ (n i : Nat) (f : Int → Int) (m : Int) (x4 x5 x6 x7 : Option zV), i + n = (h 240 1).toNat → LPc h d f0 f m i → zW zX0 l mX10_lay ((SHL, g).1.length + zmc mX10_lay) (ztot (SHL, g) + zms mX10_lay) Q 44 [some (zr 240), some (zi d), some (zi m), some (zi (i : Int)), x4, x5, x6, x7] [] (SHL, g) (hf h f) := by
  obtain ⟨m0, m1, m2, m3, m4, m5, m6, m7⟩ := hm.1
  have bnd : ∀ f : Int → Int, FInv h d f → ∀ r, 0 ≤ r → r < 8 → f r = -9 ∨ (0 ≤ f r ∧ f r ≤ 252007) := fun f hi r r0 r1 => by
    have a := hi.2.1 r r0 r1
    have b := Cnt_r f
    omega
  intro n
  induction n with
  | zero =>
    intro i f m x4 x5 x6 x7 hi hp
    have e9 : i = (h 240 1).toNat := by omega
    subst e9
    refine z_iload_n dX10_lay_44 rfl ?_
    refine z_aload_n dX10_lay_45 rfl (by omega) ?_
    refine y_geti (k' := 1) fl_X10_73 rfl dX10_lay_46 sh_240 (by decide) (hf_ne (by decide)) ?_
    refine z_icmp_ge (tgt := 189) dX10_lay_49 (by decide) (fun _ => ?_) (fun q => False.elim (by omega))
    exact K f m hp _ _ _ _ _
  | succ n ih =>
    intro i f m x4 x5 x6 x7 hi hp
    have hi2 : (i : Int) < h 240 1 := by omega
    refine z_iload_n dX10_lay_44 rfl ?_
    refine z_aload_n dX10_lay_45 rfl (by omega) ?_
    refine y_geti (k' := 1) fl_X10_73 rfl dX10_lay_46 sh_240 (by decide) (hf_ne (by decide)) ?_
    refine z_icmp_ge (tgt := 189) dX10_lay_49 (by decide) (fun q => False.elim (by omega)) (fun _ => ?_)
    refine z_iconst dX10_lay_52 ⟨by decide, by decide⟩ ?_
    refine z_istore dX10_lay_53 (by decide) rfl lss_8_4 ?_
    refine z_iload dX10_lay_55 rfl ?_
    refine z_iconst dX10_lay_57 ⟨by decide, by decide⟩ ?_
    refine z_icmp_ge (tgt := 183) dX10_lay_58 (by decide) (fun q => False.elim (by omega)) (fun _ => ?_)
    refine stX10_lay (side := 0) (a := h 241 (3 * (i : Int))) (b := h 241 (3 * (i : Int) + 1)) hg hm d0 d1 hi2 (bnd f hp.1) (Or.inl rfl) (by rw [Int.add_zero]) (by rw [Int.sub_zero]) ?_
    intro f1 m1 s1 y5 y6 y7
    have fi1 : FInv h d f1 := by
      rcases s1 with ⟨rfl, -, a1, a2, a3⟩ | ⟨rfl, -⟩
      · exact (FInv_up hm d0 d1 ⟨i, by omega, hi2, a2, rfl, Or.inl ⟨rfl, rfl⟩⟩ hp.1 a1 a3).1
      · exact hp.1
    refine y_iinc dX10_lay_177 (by decide) rfl rfl (by omega) (by omega) lss_8_4 ?_
    refine z_goto (tgt := 55) dX10_lay_180 (by decide) ?_
    refine z_iload dX10_lay_55 rfl ?_
    refine z_iconst dX10_lay_57 ⟨by decide, by decide⟩ ?_
    refine z_icmp_ge (tgt := 183) dX10_lay_58 (by decide) (fun q => False.elim (by omega)) (fun _ => ?_)
    refine stX10_lay (side := 0 + 1) (a := h 241 (3 * (i : Int) + 1)) (b := h 241 (3 * (i : Int))) hg hm d0 d1 hi2 (bnd f1 fi1) (Or.inr rfl) rfl (by rw [show 3 * (i : Int) + 1 - (0 + 1) = 3 * (i : Int) by omega]) ?_
    intro f2 m2 s2 z5 z6 z7
    refine y_iinc dX10_lay_177 (by decide) rfl rfl (by omega) (by omega) lss_8_4 ?_
    refine z_goto (tgt := 55) dX10_lay_180 (by decide) ?_
    refine z_iload dX10_lay_55 rfl ?_
    refine z_iconst dX10_lay_57 ⟨by decide, by decide⟩ ?_
    refine z_icmp_ge (tgt := 183) dX10_lay_58 (by decide) (fun _ => ?_) (fun q => False.elim (by omega))
    refine y_iinc dX10_lay_183 (by decide) rfl rfl (by omega) (by omega) lss_8_3 ?_
    refine z_goto (tgt := 44) dX10_lay_186 (by decide) ?_
    exact ih (i + 1) f2 m2 _ _ _ _ (by omega) (LPc_step hm d0 d1 hi2 hp s1 s2)
theorem Dist_of {h : zH} {d : Int} {f : Int → Int} (hp : LPc h d f f 0 (h 240 1).toNat) (hP : 0 ≤ h 240 1) : DistOK h d f := by
  obtain ⟨hi, hc⟩ := hp
  rcases hc with ⟨-, -, st⟩ | ⟨q, -⟩
  · have stable : ∀ u v c, edg h d u v c → f u ≠ -9 → f v ≠ -9 ∧ f v ≤ f u + c := by
      rintro u v c ⟨p, p0, p1, hm, rfl, ⟨rfl, rfl⟩ | ⟨rfl, rfl⟩⟩ hu
      · exact (st p p0 (by omega) hm).1 hu
      · exact (st p p0 (by omega) hm).2 hu
    refine ⟨hi.1, fun r r0 r1 => ?_, stable, fun v v0 v1 hv hs => ?_⟩
    · have a := hi.2.1 r r0 r1
      have b := Cnt_r f
      omega
    · obtain ⟨u, c, g1, g2, g3⟩ := hi.2.2 v v0 v1 hv hs
      have := stable u v c g1 g2
      exact ⟨u, c, g1, g2, by omega⟩
  · omega
theorem lwX10_lay {l : Launch} {g h : zH} {Q : zQt} {d : Int} (hg : zGd g) (hm : MB h) (d0 : 0 ≤ d) (d1 : d < h 240 3) (hQ : ∀ f, DistOK h d f → Q none (SHL, g) (hf h f)) :
    ∀ (n : Nat) (f : Int → Int) (x3 x4 x5 x6 x7 : Option zV), Pot f < n → FInv h d f → zW zX0 l mX10_lay ((SHL, g).1.length + zmc mX10_lay) (ztot (SHL, g) + zms mX10_lay) Q 36 [some (zr 240), some (zi d), some (zi 1), x3, x4, x5, x6, x7] [] (SHL, g) (hf h f) := by
  obtain ⟨m0, m1, m2, m3, m4, m5, m6, m7⟩ := hm.1
  intro n
  induction n with
  | zero =>
    intro f x3 x4 x5 x6 x7 hn hi
    have b := sumN_r (f := fun r => fpot (f r)) (B := 300000) (N := 8) (fun r r0 r1 => by have a := hi.2.1 r r0 r1; have b := Cnt_r f; unfold fpot; split <;> omega) 8 (by omega)
    have e : Pot f = sumN (fun r => fpot (f r)) 8 := rfl
    omega
  | succ n ih =>
    intro f x3 x4 x5 x6 x7 hn hi
    refine z_iload_n dX10_lay_36 rfl ?_
    refine z_if_eq (tgt := 192) dX10_lay_37 (by decide) (fun q => False.elim (by omega)) (fun _ => ?_)
    refine z_iconst dX10_lay_40 ⟨by decide, by decide⟩ ?_
    refine z_istore_n dX10_lay_41 (by decide) rfl lss_8_2 ?_
    refine z_iconst dX10_lay_42 ⟨by decide, by decide⟩ ?_
    refine z_istore_n dX10_lay_43 (by decide) rfl lss_8_3 ?_
    refine lpX10_lay1 (f0 := f) hg hm d0 d1 ?_ _ 0 f 0 _ _ _ _ (Nat.zero_add _) ⟨hi, Or.inl ⟨rfl, rfl, fun p p0 p1 => by omega⟩⟩
    intro f' m' hp y3 y4 y5 y6 y7
    rcases id hp.2 with ⟨rfl, rfl, -⟩ | ⟨rfl, hlt⟩
    ·
      refine z_goto (tgt := 36) dX10_lay_189 (by decide) ?_
      refine z_iload_n dX10_lay_36 rfl ?_
      refine z_if_eq (tgt := 192) dX10_lay_37 (by decide) (fun _ => ?_) (fun q => False.elim (by omega))
      refine z_ret (v := none) dX10_lay_192 trivial (Nat.add_zero _).symm (Nat.add_zero _).symm rfl ?_
      exact hQ _ (Dist_of hp m1.1)
    ·
      refine z_goto (tgt := 36) dX10_lay_189 (by decide) ?_
      exact ih f' _ _ _ _ _ (by omega) hp.1
theorem qX10_lay {l : Launch} {g h : zH} {Q : zQt} (hg : zGd g) (hm : MB h) {d : Int} (d0 : 0 ≤ d) (d1 : d < h 240 3) (hQ : ∀ f, DistOK h d f → Q none (SHL, g) (hf h f)) : zC l mX10_lay [zr 240, zi d] (SHL, g) h Q := by
  refine z_method kX10_lay.1 rfl (Nat.le_of_ble_eq_true rfl) (fun hok hh => ?_)
  obtain ⟨m0, m1, m2, m3, m4, m5, m6, m7⟩ := hm.1
  have f1 := nb0 hm.2.2.2.2.1 d0 d1
  refine z_iconst dX10_lay_0 ⟨by decide, by decide⟩ ?_
  refine z_istore_n dX10_lay_1 (by decide) rfl lss_8_2 ?_
  have K := lpX10_lay0 (l := l) (h := h) (Q := Q) (d := d) hg (by
    have e8 : flo h 255 (-9) 8 = hf h (fun _ => -9) := rfl
    rw [e8]
    refine z_aload_n dX10_lay_22 rfl (by omega) ?_
    refine y_geta (k' := 30) fl_X10_60 rfl dX10_lay_23 sh_240 (by decide) (gf_240_30 hg) ?_
    refine z_aload_n dX10_lay_26 rfl (by omega) ?_
    refine z_iload_n dX10_lay_27 rfl ?_
    refine z_iconst dX10_lay_28 ⟨by decide, by decide⟩ ?_
    refine z_callV (T := mX10_of) (As := [_, _]) kX10_of ml_X10_76 ⟨by decide, by decide⟩ dX10_lay_29 rfl rfl (Nat.le_of_ble_eq_true rfl) sh_240 ⟨by decide, rfl⟩ (Nat.le_refl _) (Nat.le_refl _) (qX10_of hg (by omega) (by omega) (by omega) (by omega) ((hf_ne (by decide)).trans (congrArg (h 244) (Int.add_zero _))) ?_)
    refine z_iconst dX10_lay_32 ⟨by decide, by decide⟩ ?_
    refine z_iastore dX10_lay_33 sh_255 (by omega) (by omega) ?_
    refine z_iconst dX10_lay_34 ⟨by decide, by decide⟩ ?_
    refine z_istore_n dX10_lay_35 (by decide) rfl lss_8_2 ?_
    rw [hf_up (by omega) (by omega)]
    refine lwX10_lay hg hm d0 d1 hQ 2400001 _ _ _ _ _ _ ?_ ?_
    · rw [Pot_fu (by omega) (by omega)]
      decide
    · refine ⟨?_, fun r r0 r1 => ?_, fun v v0 v1 hv hs => ?_⟩
      · unfold fu; rw [if_pos rfl]
      · by_cases e : r = h 244 (4 * d)
        · right
          have e2 : fu (fun _ => -9) (h 244 (4 * d)) 0 r = 0 := by unfold fu; rw [if_pos e]
          have e3 := Cnt_fu (f := fun _ => -9) (k := h 244 (4 * d)) (v := 0) (by omega) (by omega)
          have e4 : Cnt (fun _ => -9) = 0 := by decide
          have e5 : fcnt (-9) = 0 := by decide
          have e6 : fcnt 0 = 1 := by decide
          rw [e2]
          omega
        · left
          unfold fu; rw [if_neg e]
      · exact absurd (by unfold fu; rw [if_neg hs]) hv) 8 0 rfl
  rw [flo_0] at K
  exact K
