/-! The reference: a house is told. -/
def tk1 (h : zH) : zH := zup (zup (zup (zup h 240 0 (h 240 21)) 240 1 (h 240 22)) 240 3 (h 240 24)) 240 5 (h 240 28)
def tkD (h : zH) : Nat → zH
  | 0 => h
  | n + 1 => zup (zup (tkD h n) 244 (4 * (n : Int) + 0) (h 252 n)) 244 (4 * (n : Int) + 1) (h 253 n)
theorem tkD_ne {h : zH} {a b : Int} (ha : a ≠ 244) : ∀ n : Nat, tkD h n a b = h a b := by
  intro n
  induction n with
  | zero => rfl
  | succ n ih =>
    show zup (zup (tkD h n) 244 _ _) 244 _ _ a b = _
    rw [zup_ne (fun z => ha z.1), zup_ne (fun z => ha z.1), ih]
def tk4 (h : zH) : zH := har (cpo (cpo (tk1 h) 241 0 250 0 27) 242 0 251 0 18) 244 29 (fun _ => 0)
def tkR (h : zH) : zH := zup (zup (zup (zup (zup (cpo (tkD (tk4 h) (h 240 24).toNat) 243 0 254 0 4) 240 9 0) 240 13 0) 247 0 0) 247 1 0) 240 16 0
theorem lpX10_tk1 {l : Launch} {g h : zH} {Q : zQt}  (hg : zGd g)  (K : zW zX0 l mX10_take ((SHL, g).1.length + zmc mX10_take) (ztot (SHL, g) + zms mX10_take) Q 58 [some (zr 240), some (zi ((27 : Nat) : Int))] [] (SHL, g) (cpo h 241 0 250 0 (27))) : ∀ (n i : Nat), i + n = 27 → zW zX0 l mX10_take ((SHL, g).1.length + zmc mX10_take) (ztot (SHL, g) + zms mX10_take) Q 34 [some (zr 240), some (zi (i : Int))] [] (SHL, g) (cpo h 241 0 250 0 i) := by
  intro n
  induction n with
  | zero =>
    intro i hi 
    have e9 : i = 27 := by omega
    subst e9
    refine z_iload_n dX10_take_34 rfl ?_
    refine z_bipush dX10_take_35 ⟨by decide, by decide⟩ ?_
    refine z_icmp_ge (tgt := 58) dX10_take_37 (by decide) (fun _ => ?_) (fun q => False.elim (by omega))
    exact K
  | succ n ih =>
    intro i hi 
    refine z_iload_n dX10_take_34 rfl ?_
    refine z_bipush dX10_take_35 ⟨by decide, by decide⟩ ?_
    refine z_icmp_ge (tgt := 58) dX10_take_37 (by decide) (fun q => False.elim (by omega)) (fun _ => ?_)
    refine z_aload_n dX10_take_40 rfl (by omega) ?_
    refine y_geta (k' := 2) fl_X10_13 rfl dX10_take_41 sh_240 (by decide) (gf_240_2 hg) ?_
    refine z_iload_n dX10_take_44 rfl ?_
    refine z_aload_n dX10_take_45 rfl (by omega) ?_
    refine y_geta (k' := 23) fl_X10_45 rfl dX10_take_46 sh_240 (by decide) (gf_240_23 hg) ?_
    refine z_iload_n dX10_take_49 rfl ?_
    refine z_iaload dX10_take_50 sh_250 (by omega) (by omega) (cpo_ne (by decide)) ?_
    refine z_iastore dX10_take_51 sh_241 (by omega) (by omega) ?_
    refine y_iinc dX10_take_52 (by decide) rfl rfl (by omega) (by omega) lss_2_1 ?_
    refine z_goto (tgt := 34) dX10_take_55 (by decide) ?_
    rw [cpo_succ (by omega) (by congr 1; omega)]
    exact ih (i + 1) (by omega)
theorem lpX10_tk2 {l : Launch} {g h : zH} {Q : zQt}  (hg : zGd g)  (K : zW zX0 l mX10_take ((SHL, g).1.length + zmc mX10_take) (ztot (SHL, g) + zms mX10_take) Q 84 [some (zr 240), some (zi ((18 : Nat) : Int))] [] (SHL, g) (cpo h 242 0 251 0 (18))) : ∀ (n i : Nat), i + n = 18 → zW zX0 l mX10_take ((SHL, g).1.length + zmc mX10_take) (ztot (SHL, g) + zms mX10_take) Q 60 [some (zr 240), some (zi (i : Int))] [] (SHL, g) (cpo h 242 0 251 0 i) := by
  intro n
  induction n with
  | zero =>
    intro i hi 
    have e9 : i = 18 := by omega
    subst e9
    refine z_iload_n dX10_take_60 rfl ?_
    refine z_bipush dX10_take_61 ⟨by decide, by decide⟩ ?_
    refine z_icmp_ge (tgt := 84) dX10_take_63 (by decide) (fun _ => ?_) (fun q => False.elim (by omega))
    exact K
  | succ n ih =>
    intro i hi 
    refine z_iload_n dX10_take_60 rfl ?_
    refine z_bipush dX10_take_61 ⟨by decide, by decide⟩ ?_
    refine z_icmp_ge (tgt := 84) dX10_take_63 (by decide) (fun q => False.elim (by omega)) (fun _ => ?_)
    refine z_aload_n dX10_take_66 rfl (by omega) ?_
    refine y_geta (k' := 4) fl_X10_17 rfl dX10_take_67 sh_240 (by decide) (gf_240_4 hg) ?_
    refine z_iload_n dX10_take_70 rfl ?_
    refine z_aload_n dX10_take_71 rfl (by omega) ?_
    refine y_geta (k' := 25) fl_X10_48 rfl dX10_take_72 sh_240 (by decide) (gf_240_25 hg) ?_
    refine z_iload_n dX10_take_75 rfl ?_
    refine z_iaload dX10_take_76 sh_251 (by omega) (by omega) (cpo_ne (by decide)) ?_
    refine z_iastore dX10_take_77 sh_242 (by omega) (by omega) ?_
    refine y_iinc dX10_take_78 (by decide) rfl rfl (by omega) (by omega) lss_2_1 ?_
    refine z_goto (tgt := 60) dX10_take_81 (by decide) ?_
    rw [cpo_succ (by omega) (by congr 1; omega)]
    exact ih (i + 1) (by omega)
theorem lpX10_tk3 {l : Launch} {g h : zH} {Q : zQt}  (hg : zGd g)  (K : zW zX0 l mX10_take ((SHL, g).1.length + zmc mX10_take) (ztot (SHL, g) + zms mX10_take) Q 105 [some (zr 240), some (zi ((29 : Nat) : Int))] [] (SHL, g) (har h 244 (29) (fun _ => 0))) : ∀ (n i : Nat), i + n = 29 → zW zX0 l mX10_take ((SHL, g).1.length + zmc mX10_take) (ztot (SHL, g) + zms mX10_take) Q 86 [some (zr 240), some (zi (i : Int))] [] (SHL, g) (har h 244 i (fun _ => 0)) := by
  intro n
  induction n with
  | zero =>
    intro i hi 
    have e9 : i = 29 := by omega
    subst e9
    refine z_iload_n dX10_take_86 rfl ?_
    refine z_bipush dX10_take_87 ⟨by decide, by decide⟩ ?_
    refine z_icmp_ge (tgt := 105) dX10_take_89 (by decide) (fun _ => ?_) (fun q => False.elim (by omega))
    exact K
  | succ n ih =>
    intro i hi 
    refine z_iload_n dX10_take_86 rfl ?_
    refine z_bipush dX10_take_87 ⟨by decide, by decide⟩ ?_
    refine z_icmp_ge (tgt := 105) dX10_take_89 (by decide) (fun q => False.elim (by omega)) (fun _ => ?_)
    refine z_aload_n dX10_take_92 rfl (by omega) ?_
    refine y_geta (k' := 7) fl_X10_23 rfl dX10_take_93 sh_240 (by decide) (gf_240_7 hg) ?_
    refine z_iload_n dX10_take_96 rfl ?_
    refine z_iconst dX10_take_97 ⟨by decide, by decide⟩ ?_
    refine z_iastore dX10_take_98 sh_244 (by omega) (by omega) ?_
    refine y_iinc dX10_take_99 (by decide) rfl rfl (by omega) (by omega) lss_2_1 ?_
    refine z_goto (tgt := 86) dX10_take_102 (by decide) ?_
    have q := ih (i + 1) (by omega)
    rw [har_succ] at q
    exact q
theorem lpX10_tk4 {l : Launch} {g h : zH} {Q : zQt} {D : Int} (hg : zGd g) (eD : h 240 3 = D) (n2 : 0 ≤ D ∧ D ≤ 6) (K : zW zX0 l mX10_take ((SHL, g).1.length + zmc mX10_take) (ztot (SHL, g) + zms mX10_take) Q 153 [some (zr 240), some (zi ((D.toNat : Nat) : Int))] [] (SHL, g) (tkD h (D.toNat))) : ∀ (n i : Nat), i + n = D.toNat → zW zX0 l mX10_take ((SHL, g).1.length + zmc mX10_take) (ztot (SHL, g) + zms mX10_take) Q 107 [some (zr 240), some (zi (i : Int))] [] (SHL, g) (tkD h i) := by
  intro n
  induction n with
  | zero =>
    intro i hi 
    have e9 : i = D.toNat := by omega
    subst e9
    refine z_iload_n dX10_take_107 rfl ?_
    refine z_aload_n dX10_take_108 rfl (by omega) ?_
    refine y_geti (k' := 3) fl_X10_66 rfl dX10_take_109 sh_240 (by decide) ((tkD_ne (by decide) _).trans eD) ?_
    refine z_icmp_ge (tgt := 153) dX10_take_112 (by decide) (fun _ => ?_) (fun q => False.elim (by omega))
    exact K
  | succ n ih =>
    intro i hi 
    refine z_iload_n dX10_take_107 rfl ?_
    refine z_aload_n dX10_take_108 rfl (by omega) ?_
    refine y_geti (k' := 3) fl_X10_66 rfl dX10_take_109 sh_240 (by decide) ((tkD_ne (by decide) _).trans eD) ?_
    refine z_icmp_ge (tgt := 153) dX10_take_112 (by decide) (fun q => False.elim (by omega)) (fun _ => ?_)
    refine z_aload_n dX10_take_115 rfl (by omega) ?_
    refine y_geta (k' := 7) fl_X10_23 rfl dX10_take_116 sh_240 (by decide) (gf_240_7 hg) ?_
    refine z_iconst dX10_take_119 ⟨by decide, by decide⟩ ?_
    refine z_iload_n dX10_take_120 rfl ?_
    refine y_imul dX10_take_121 (by omega) (by omega) ?_
    refine z_iconst dX10_take_122 ⟨by decide, by decide⟩ ?_
    refine y_iadd dX10_take_123 (by omega) (by omega) ?_
    refine z_aload_n dX10_take_124 rfl (by omega) ?_
    refine y_geta (k' := 26) fl_X10_51 rfl dX10_take_125 sh_240 (by decide) (gf_240_26 hg) ?_
    refine z_iload_n dX10_take_128 rfl ?_
    refine z_iaload dX10_take_129 sh_252 (by omega) (by omega) (tkD_ne (by decide) _) ?_
    refine z_iastore dX10_take_130 sh_244 (by omega) (by omega) ?_
    refine z_aload_n dX10_take_131 rfl (by omega) ?_
    refine y_geta (k' := 7) fl_X10_23 rfl dX10_take_132 sh_240 (by decide) (gf_240_7 hg) ?_
    refine z_iconst dX10_take_135 ⟨by decide, by decide⟩ ?_
    refine z_iload_n dX10_take_136 rfl ?_
    refine y_imul dX10_take_137 (by omega) (by omega) ?_
    refine z_iconst dX10_take_138 ⟨by decide, by decide⟩ ?_
    refine y_iadd dX10_take_139 (by omega) (by omega) ?_
    refine z_aload_n dX10_take_140 rfl (by omega) ?_
    refine y_geta (k' := 27) fl_X10_54 rfl dX10_take_141 sh_240 (by decide) (gf_240_27 hg) ?_
    refine z_iload_n dX10_take_144 rfl ?_
    refine z_iaload dX10_take_145 sh_253 (by omega) (by omega) ((zup_ne (by omega)).trans (tkD_ne (by decide) _)) ?_
    refine z_iastore dX10_take_146 sh_244 (by omega) (by omega) ?_
    refine y_iinc dX10_take_147 (by decide) rfl rfl (by omega) (by omega) lss_2_1 ?_
    refine z_goto (tgt := 107) dX10_take_150 (by decide) ?_
    exact ih (i + 1) (by omega)
theorem lpX10_tk5 {l : Launch} {g h : zH} {Q : zQt}  (hg : zGd g)  (K : zW zX0 l mX10_take ((SHL, g).1.length + zmc mX10_take) (ztot (SHL, g) + zms mX10_take) Q 178 [some (zr 240), some (zi ((4 : Nat) : Int))] [] (SHL, g) (cpo h 243 0 254 0 (4))) : ∀ (n i : Nat), i + n = 4 → zW zX0 l mX10_take ((SHL, g).1.length + zmc mX10_take) (ztot (SHL, g) + zms mX10_take) Q 155 [some (zr 240), some (zi (i : Int))] [] (SHL, g) (cpo h 243 0 254 0 i) := by
  intro n
  induction n with
  | zero =>
    intro i hi 
    have e9 : i = 4 := by omega
    subst e9
    refine z_iload_n dX10_take_155 rfl ?_
    refine z_iconst dX10_take_156 ⟨by decide, by decide⟩ ?_
    refine z_icmp_ge (tgt := 178) dX10_take_157 (by decide) (fun _ => ?_) (fun q => False.elim (by omega))
    exact K
  | succ n ih =>
    intro i hi 
    refine z_iload_n dX10_take_155 rfl ?_
    refine z_iconst dX10_take_156 ⟨by decide, by decide⟩ ?_
    refine z_icmp_ge (tgt := 178) dX10_take_157 (by decide) (fun q => False.elim (by omega)) (fun _ => ?_)
    refine z_aload_n dX10_take_160 rfl (by omega) ?_
    refine y_geta (k' := 6) fl_X10_20 rfl dX10_take_161 sh_240 (by decide) (gf_240_6 hg) ?_
    refine z_iload_n dX10_take_164 rfl ?_
    refine z_aload_n dX10_take_165 rfl (by omega) ?_
    refine y_geta (k' := 29) fl_X10_57 rfl dX10_take_166 sh_240 (by decide) (gf_240_29 hg) ?_
    refine z_iload_n dX10_take_169 rfl ?_
    refine z_iaload dX10_take_170 sh_254 (by omega) (by omega) (cpo_ne (by decide)) ?_
    refine z_iastore dX10_take_171 sh_243 (by omega) (by omega) ?_
    refine y_iinc dX10_take_172 (by decide) rfl rfl (by omega) (by omega) lss_2_1 ?_
    refine z_goto (tgt := 155) dX10_take_175 (by decide) ?_
    rw [cpo_succ (by omega) (by congr 1; omega)]
    exact ih (i + 1) (by omega)
theorem qX10_take {l : Launch} {g h : zH} {Q : zQt} (hg : zGd g) (n2 : 0 ≤ h 240 24 ∧ h 240 24 ≤ 6) (hQ : Q none (SHL, g) (tkR h)) : zC l mX10_take [zr 240] (SHL, g) h Q := by
  refine z_method kX10_take.1 rfl (Nat.le_of_ble_eq_true rfl) (fun hok hh => ?_)
  have e3 : tk4 h 240 3 = h 240 24 := by
    unfold tk4 tk1
    rw [har_ne (by omega), cpo_ne (by omega), cpo_ne (by omega), zup_ne (by omega), zup_same]
  refine z_aload_n dX10_take_0 rfl (by omega) ?_
  refine z_aload_n dX10_take_1 rfl (by omega) ?_
  refine y_geti (k' := 21) fl_X10_114 rfl dX10_take_2 sh_240 (by decide) rfl ?_
  refine y_puti (k' := 0) fl_X10_7 rfl dX10_take_5 sh_240 (by decide)  ?_
  refine z_aload_n dX10_take_8 rfl (by omega) ?_
  refine z_aload_n dX10_take_9 rfl (by omega) ?_
  refine y_geti (k' := 22) fl_X10_111 rfl dX10_take_10 sh_240 (by decide) (zup_ne (by omega)) ?_
  refine y_puti (k' := 1) fl_X10_73 rfl dX10_take_13 sh_240 (by decide)  ?_
  refine z_aload_n dX10_take_16 rfl (by omega) ?_
  refine z_aload_n dX10_take_17 rfl (by omega) ?_
  refine y_geti (k' := 24) fl_X10_126 rfl dX10_take_18 sh_240 (by decide) ((zup_ne (by omega)).trans (zup_ne (by omega))) ?_
  refine y_puti (k' := 3) fl_X10_66 rfl dX10_take_21 sh_240 (by decide)  ?_
  refine z_aload_n dX10_take_24 rfl (by omega) ?_
  refine z_aload_n dX10_take_25 rfl (by omega) ?_
  refine y_geti (k' := 28) fl_X10_129 rfl dX10_take_26 sh_240 (by decide) ((zup_ne (by omega)).trans ((zup_ne (by omega)).trans (zup_ne (by omega)))) ?_
  refine y_puti (k' := 5) fl_X10_132 rfl dX10_take_29 sh_240 (by decide)  ?_
  refine z_iconst dX10_take_32 ⟨by decide, by decide⟩ ?_
  refine z_istore_n dX10_take_33 (by decide) rfl lss_2_1 ?_
  have K := lpX10_tk1 (l := l) (h := tk1 h) (Q := Q) hg (by
    refine z_iconst dX10_take_58 ⟨by decide, by decide⟩ ?_
    refine z_istore_n dX10_take_59 (by decide) rfl lss_2_1 ?_
    have K := lpX10_tk2 (l := l) (h := cpo (tk1 h) 241 0 250 0 27) (Q := Q) hg (by
      refine z_iconst dX10_take_84 ⟨by decide, by decide⟩ ?_
      refine z_istore_n dX10_take_85 (by decide) rfl lss_2_1 ?_
      have K := lpX10_tk3 (l := l) (h := cpo (cpo (tk1 h) 241 0 250 0 27) 242 0 251 0 18) (Q := Q) hg (by
        refine z_iconst dX10_take_105 ⟨by decide, by decide⟩ ?_
        refine z_istore_n dX10_take_106 (by decide) rfl lss_2_1 ?_
        have K := lpX10_tk4 (l := l) (h := tk4 h) (Q := Q) hg (D := h 240 24) e3 n2 (by
          refine z_iconst dX10_take_153 ⟨by decide, by decide⟩ ?_
          refine z_istore_n dX10_take_154 (by decide) rfl lss_2_1 ?_
          have K := lpX10_tk5 (l := l) (h := tkD (tk4 h) (h 240 24).toNat) (Q := Q) hg (by
            refine z_aload_n dX10_take_178 rfl (by omega) ?_
            refine z_iconst dX10_take_179 ⟨by decide, by decide⟩ ?_
            refine y_puti (k' := 9) fl_X10_135 rfl dX10_take_180 sh_240 (by decide)  ?_
            refine z_aload_n dX10_take_183 rfl (by omega) ?_
            refine z_iconst dX10_take_184 ⟨by decide, by decide⟩ ?_
            refine y_puti (k' := 13) fl_X10_138 rfl dX10_take_185 sh_240 (by decide)  ?_
            refine z_aload_n dX10_take_188 rfl (by omega) ?_
            refine y_geta (k' := 11) fl_X10_32 rfl dX10_take_189 sh_240 (by decide) (gf_240_11 hg) ?_
            refine z_iconst dX10_take_192 ⟨by decide, by decide⟩ ?_
            refine z_iconst dX10_take_193 ⟨by decide, by decide⟩ ?_
            refine z_bastore dX10_take_194 sh_247 (by omega) (by omega) (by omega) ?_
            refine z_aload_n dX10_take_195 rfl (by omega) ?_
            refine y_geta (k' := 11) fl_X10_32 rfl dX10_take_196 sh_240 (by decide) (gf_240_11 hg) ?_
            refine z_iconst dX10_take_199 ⟨by decide, by decide⟩ ?_
            refine z_iconst dX10_take_200 ⟨by decide, by decide⟩ ?_
            refine z_bastore dX10_take_201 sh_247 (by omega) (by omega) (by omega) ?_
            refine z_aload_n dX10_take_202 rfl (by omega) ?_
            refine z_iconst dX10_take_203 ⟨by decide, by decide⟩ ?_
            refine y_puti (k' := 16) fl_X10_82 rfl dX10_take_204 sh_240 (by decide)  ?_
            refine z_ret (v := none) dX10_take_207 trivial (Nat.add_zero _).symm (Nat.add_zero _).symm rfl ?_
            exact hQ) 4 0 rfl
          rw [cpo_0] at K
          exact K) _ 0 (Nat.zero_add _)
        exact K) 29 0 rfl
      rw [har_0] at K
      exact K) 18 0 rfl
    rw [cpo_0] at K
    exact K) 27 0 rfl
  rw [cpo_0] at K
  exact K
theorem MH_self (h : zH) : MH h h (h 240 17) (h 240 18) (h 240 19) (h 240 20) = h := by
  funext x y
  unfold MH
  by_cases z : x = 240 ∧ 17 ≤ y ∧ y ≤ 28
  · rw [if_pos z, z.1]
    by_cases y1 : y = 17
    · rw [if_pos y1, y1]
    by_cases y2 : y = 18
    · rw [if_neg y1, if_pos y2, y2]
    by_cases y3 : y = 19
    · rw [if_neg y1, if_neg y2, if_pos y3, y3]
    by_cases y4 : y = 20
    · rw [if_neg y1, if_neg y2, if_neg y3, if_pos y4, y4]
    rw [if_neg y1, if_neg y2, if_neg y3, if_neg y4]
  · rw [if_neg z]
    split <;> rfl

theorem lwX10_house {l : Launch} {g h : zH} {Q : zQt} (hg : zGd g) (hL : 0 ≤ h 240 16 ∧ h 240 16 ≤ 150) (hT : ∀ i, 0 ≤ i → i < h 240 16 → 0 ≤ h 249 i ∧ h 249 i ≤ 255) {r : Int × zH × Int} (h1 : r.1 = -9 → ∀ G a c q, RM r.2.1 G → FO r.2.1 → Q (some (zi r.2.2)) (SHL, g) (tkR (MH h G a (-9) c q))) (h0 : ¬ r.1 = -9 → ∀ G a c q, Q (some (zi (-10 - r.1))) (SHL, g) (MH h G a r.1 c q)) :
    ∀ (n : Nat) (F G : zH) (i A : Int), FO F → RM F G → 0 ≤ i → i ≤ A → A ≤ h 240 16 → (i = 0 → F 0 1 = 0 ∧ F 0 2 = 0) → (h 240 16 - A).toNat < n → prs (h 249) (h 240 16) n F i A = r → zW zX0 l mX10_house ((SHL, g).1.length + zmc mX10_house) (ztot (SHL, g) + zms mX10_house) Q 37 [some (zr 240), some (zi i)] [] (SHL, g) (MH h G (ke (h 249) (h 240 16) A) (-9) (kc (h 249) (h 240 16) A) (ks (h 249) (h 240 16) A)) := by
  intro n
  induction n with
  | zero => intro F G i A hF rm i0 i1 A1 hi hn; omega
  | succ n ih =>
    intro F G i A hF rm i0 i1 A1 hi hn hr
    have u1 := ks_r (X := h 249) A1
    have w1 := ke_r (X := h 249) A1
    have io := IO_m (X := h 249) (c := kc (h 249) (h 240 16) A) hF (show 0 ≤ ke (h 249) (h 240 16) A by omega) w1.2 (show 0 ≤ ks (h 249) (h 240 16) A by omega) w1.1 i0 hi
    have lt := fun z => ke_lt (X := h 249) A1 z
    have e0 : prs (h 249) (h 240 16) (n + 1) F i A = if kc (h 249) (h 240 16) A = -1 then (-9, F, i) else if (itm F (h 249) (h 240 16) (ke (h 249) (h 240 16) A) (ks (h 249) (h 240 16) A) i (kc (h 249) (h 240 16) A)).1 = -9 then prs (h 249) (h 240 16) n (itm F (h 249) (h 240 16) (ke (h 249) (h 240 16) A) (ks (h 249) (h 240 16) A) i (kc (h 249) (h 240 16) A)).2.1 (i + 1) (itm F (h 249) (h 240 16) (ke (h 249) (h 240 16) A) (ks (h 249) (h 240 16) A) i (kc (h 249) (h 240 16) A)).2.2 else ((itm F (h 249) (h 240 16) (ke (h 249) (h 240 16) A) (ks (h 249) (h 240 16) A) i (kc (h 249) (h 240 16) A)).1, F, i) := rfl
    rw [e0] at hr
    clear e0
    refine z_aload_n dX10_house_37 rfl (by omega) ?_
    refine y_geti (k' := 18) fl_X10_42 rfl dX10_house_38 sh_240 (by decide) MH_r18 ?_
    refine z_bipush dX10_house_41 ⟨by decide, by decide⟩ ?_
    refine z_icmp_ne (tgt := 155) dX10_house_43 (by decide) (fun q => False.elim (by omega)) (fun _ => ?_)
    refine z_aload_n dX10_house_46 rfl (by omega) ?_
    refine y_geti (k' := 19) fl_X10_91 rfl dX10_house_47 sh_240 (by decide) MH_r19 ?_
    refine z_iconst dX10_house_50 ⟨by decide, by decide⟩ ?_
    refine z_icmp_eq (tgt := 155) dX10_house_51 (by decide) (fun c51 => ?_) (fun c51 => ?_)
    ·
      refine z_aload_n dX10_house_155 rfl (by omega) ?_
      refine y_geti (k' := 18) fl_X10_42 rfl dX10_house_156 sh_240 (by decide) MH_r18 ?_
      refine z_bipush dX10_house_159 ⟨by decide, by decide⟩ ?_
      refine z_icmp_eq (tgt := 172) dX10_house_161 (by decide) (fun _ => ?_) (fun q => False.elim (by omega))
      refine z_aload_n dX10_house_172 rfl (by omega) ?_
      refine z_callV (T := mX10_take) (As := []) kX10_take ml_X10_157 ⟨by decide, by decide⟩ dX10_house_173 rfl rfl (Nat.le_of_ble_eq_true rfl) sh_240 ⟨by decide, rfl⟩ (Nat.le_refl _) (Nat.le_refl _) (qX10_take hg (by rw [MH_g (by decide) (by decide), rm.2.2.1]; exact hF.1.2.2.1) ?_)
      refine z_iload_n dX10_house_176 rfl ?_
      refine z_ret (v := some (zi _)) dX10_house_177 trivial (Nat.add_zero _).symm (Nat.add_zero _).symm rfl ?_
      rw [if_pos c51] at hr
      subst hr
      exact h1 rfl _ _ _ _ rm hF
    ·
      have lt2 := lt c51
      clear lt
      refine z_aload_n dX10_house_54 rfl (by omega) ?_
      refine y_geti (k' := 19) fl_X10_91 rfl dX10_house_55 sh_240 (by decide) MH_r19 ?_
      by_cases s1099 : kc (h 249) (h 240 16) A = 1099
      ·
        refine z_lsw (tgt := 137) (off := 79) dX10_house_58 (by decide) (by rw [s1099]; decide) (by decide) ?_
        have e : itm F (h 249) (h 240 16) (ke (h 249) (h 240 16) A) (ks (h 249) (h 240 16) A) i (kc (h 249) (h 240 16) A) = itC F (h 249) (h 240 16) (ke (h 249) (h 240 16) A) (ks (h 249) (h 240 16) A) := by
          unfold itm
          rw [if_pos s1099]
        rw [e] at hr io
        refine z_aload_n dX10_house_137 rfl (by omega) ?_
        refine z_callV (T := mX10_readChild) (As := []) kX10_readChild ml_X10_154 ⟨by decide, by decide⟩ dX10_house_138 rfl rfl (Nat.le_of_ble_eq_true rfl) sh_240 ⟨by decide, rfl⟩ (Nat.le_refl _) (Nat.le_refl _) (qX10_readChild hg hL hT hF rm (by omega) (by omega) (by omega) (fun G9 a9 c9 q9 n9 => ?_) (fun G9 n9 r9 => ?_))
        ·
          have io2 := io.2 n9
          refine z_goto (tgt := 149) dX10_house_141 (by decide) ?_
          refine y_iinc dX10_house_149 (by decide) rfl rfl (by omega) (by omega) lss_2_1 ?_
          refine z_goto (tgt := 37) dX10_house_152 (by decide) ?_
          refine z_aload_n dX10_house_37 rfl (by omega) ?_
          refine y_geti (k' := 18) fl_X10_42 rfl dX10_house_38 sh_240 (by decide) MH_r18 ?_
          refine z_bipush dX10_house_41 ⟨by decide, by decide⟩ ?_
          refine z_icmp_ne (tgt := 155) dX10_house_43 (by decide) (fun _ => ?_) (fun q => False.elim (by omega))
          refine z_aload_n dX10_house_155 rfl (by omega) ?_
          refine y_geti (k' := 18) fl_X10_42 rfl dX10_house_156 sh_240 (by decide) MH_r18 ?_
          refine z_bipush dX10_house_159 ⟨by decide, by decide⟩ ?_
          refine z_icmp_eq (tgt := 172) dX10_house_161 (by decide) (fun q => False.elim (by omega)) (fun _ => ?_)
          refine z_bipush dX10_house_164 ⟨by decide, by decide⟩ ?_
          refine z_aload_n dX10_house_166 rfl (by omega) ?_
          refine y_geti (k' := 18) fl_X10_42 rfl dX10_house_167 sh_240 (by decide) MH_r18 ?_
          refine y_isub dX10_house_170 (by omega) (by omega) ?_
          refine z_ret (v := some (zi _)) dX10_house_171 trivial (Nat.add_zero _).symm (Nat.add_zero _).symm rfl ?_
          rw [if_neg c51, if_neg n9] at hr
          subst hr
          exact h0 n9 _ _ _ _
        ·
          refine z_goto (tgt := 149) dX10_house_141 (by decide) ?_
          refine y_iinc dX10_house_149 (by decide) rfl rfl (by omega) (by omega) lss_2_1 ?_
          refine z_goto (tgt := 37) dX10_house_152 (by decide) ?_
          rw [if_neg c51, if_pos n9] at hr
          have io1 := io.1 n9
          exact ih _ _ (i + 1) _ io1.1 r9 (by omega) (by omega) io1.2.2 (by omega) (by omega) hr
      by_cases s1100 : kc (h 249) (h 240 16) A = 1100
      ·
        refine z_lsw (tgt := 123) (off := 65) dX10_house_58 (by decide) (by rw [s1100]; decide) (by decide) ?_
        have e : itm F (h 249) (h 240 16) (ke (h 249) (h 240 16) A) (ks (h 249) (h 240 16) A) i (kc (h 249) (h 240 16) A) = itD F (h 249) (h 240 16) (ke (h 249) (h 240 16) A) (ks (h 249) (h 240 16) A) := by
          unfold itm
          rw [if_neg s1099, if_pos s1100]
        rw [e] at hr io
        refine z_aload_n dX10_house_123 rfl (by omega) ?_
        refine z_callV (T := mX10_readDirector) (As := []) kX10_readDirector ml_X10_148 ⟨by decide, by decide⟩ dX10_house_124 rfl rfl (Nat.le_of_ble_eq_true rfl) sh_240 ⟨by decide, rfl⟩ (Nat.le_refl _) (Nat.le_refl _) (qX10_readDirector hg hL hT hF rm (by omega) (by omega) (by omega) (fun G9 a9 c9 q9 n9 => ?_) (fun G9 n9 r9 => ?_))
        ·
          have io2 := io.2 n9
          refine z_goto (tgt := 149) dX10_house_127 (by decide) ?_
          refine y_iinc dX10_house_149 (by decide) rfl rfl (by omega) (by omega) lss_2_1 ?_
          refine z_goto (tgt := 37) dX10_house_152 (by decide) ?_
          refine z_aload_n dX10_house_37 rfl (by omega) ?_
          refine y_geti (k' := 18) fl_X10_42 rfl dX10_house_38 sh_240 (by decide) MH_r18 ?_
          refine z_bipush dX10_house_41 ⟨by decide, by decide⟩ ?_
          refine z_icmp_ne (tgt := 155) dX10_house_43 (by decide) (fun _ => ?_) (fun q => False.elim (by omega))
          refine z_aload_n dX10_house_155 rfl (by omega) ?_
          refine y_geti (k' := 18) fl_X10_42 rfl dX10_house_156 sh_240 (by decide) MH_r18 ?_
          refine z_bipush dX10_house_159 ⟨by decide, by decide⟩ ?_
          refine z_icmp_eq (tgt := 172) dX10_house_161 (by decide) (fun q => False.elim (by omega)) (fun _ => ?_)
          refine z_bipush dX10_house_164 ⟨by decide, by decide⟩ ?_
          refine z_aload_n dX10_house_166 rfl (by omega) ?_
          refine y_geti (k' := 18) fl_X10_42 rfl dX10_house_167 sh_240 (by decide) MH_r18 ?_
          refine y_isub dX10_house_170 (by omega) (by omega) ?_
          refine z_ret (v := some (zi _)) dX10_house_171 trivial (Nat.add_zero _).symm (Nat.add_zero _).symm rfl ?_
          rw [if_neg c51, if_neg n9] at hr
          subst hr
          exact h0 n9 _ _ _ _
        ·
          refine z_goto (tgt := 149) dX10_house_127 (by decide) ?_
          refine y_iinc dX10_house_149 (by decide) rfl rfl (by omega) (by omega) lss_2_1 ?_
          refine z_goto (tgt := 37) dX10_house_152 (by decide) ?_
          rw [if_neg c51, if_pos n9] at hr
          have io1 := io.1 n9
          exact ih _ _ (i + 1) _ io1.1 r9 (by omega) (by omega) io1.2.2 (by omega) (by omega) hr
      by_cases s1102 : kc (h 249) (h 240 16) A = 1102
      ·
        refine z_lsw (tgt := 130) (off := 72) dX10_house_58 (by decide) (by rw [s1102]; decide) (by decide) ?_
        have e : itm F (h 249) (h 240 16) (ke (h 249) (h 240 16) A) (ks (h 249) (h 240 16) A) i (kc (h 249) (h 240 16) A) = itF F (h 249) (h 240 16) (ke (h 249) (h 240 16) A) (ks (h 249) (h 240 16) A) := by
          unfold itm
          rw [if_neg s1099, if_neg s1100, if_pos s1102]
        rw [e] at hr io
        refine z_aload_n dX10_house_130 rfl (by omega) ?_
        refine z_callV (T := mX10_readFriends) (As := []) kX10_readFriends ml_X10_151 ⟨by decide, by decide⟩ dX10_house_131 rfl rfl (Nat.le_of_ble_eq_true rfl) sh_240 ⟨by decide, rfl⟩ (Nat.le_refl _) (Nat.le_refl _) (qX10_readFriends hg hL hT hF rm (by omega) (by omega) (by omega) (fun G9 a9 c9 q9 n9 => ?_) (fun G9 n9 r9 => ?_))
        ·
          have io2 := io.2 n9
          refine z_goto (tgt := 149) dX10_house_134 (by decide) ?_
          refine y_iinc dX10_house_149 (by decide) rfl rfl (by omega) (by omega) lss_2_1 ?_
          refine z_goto (tgt := 37) dX10_house_152 (by decide) ?_
          refine z_aload_n dX10_house_37 rfl (by omega) ?_
          refine y_geti (k' := 18) fl_X10_42 rfl dX10_house_38 sh_240 (by decide) MH_r18 ?_
          refine z_bipush dX10_house_41 ⟨by decide, by decide⟩ ?_
          refine z_icmp_ne (tgt := 155) dX10_house_43 (by decide) (fun _ => ?_) (fun q => False.elim (by omega))
          refine z_aload_n dX10_house_155 rfl (by omega) ?_
          refine y_geti (k' := 18) fl_X10_42 rfl dX10_house_156 sh_240 (by decide) MH_r18 ?_
          refine z_bipush dX10_house_159 ⟨by decide, by decide⟩ ?_
          refine z_icmp_eq (tgt := 172) dX10_house_161 (by decide) (fun q => False.elim (by omega)) (fun _ => ?_)
          refine z_bipush dX10_house_164 ⟨by decide, by decide⟩ ?_
          refine z_aload_n dX10_house_166 rfl (by omega) ?_
          refine y_geti (k' := 18) fl_X10_42 rfl dX10_house_167 sh_240 (by decide) MH_r18 ?_
          refine y_isub dX10_house_170 (by omega) (by omega) ?_
          refine z_ret (v := some (zi _)) dX10_house_171 trivial (Nat.add_zero _).symm (Nat.add_zero _).symm rfl ?_
          rw [if_neg c51, if_neg n9] at hr
          subst hr
          exact h0 n9 _ _ _ _
        ·
          refine z_goto (tgt := 149) dX10_house_134 (by decide) ?_
          refine y_iinc dX10_house_149 (by decide) rfl rfl (by omega) (by omega) lss_2_1 ?_
          refine z_goto (tgt := 37) dX10_house_152 (by decide) ?_
          rw [if_neg c51, if_pos n9] at hr
          have io1 := io.1 n9
          exact ih _ _ (i + 1) _ io1.1 r9 (by omega) (by omega) io1.2.2 (by omega) (by omega) hr
      by_cases s1112 : kc (h 249) (h 240 16) A = 1112
      ·
        refine z_lsw (tgt := 116) (off := 58) dX10_house_58 (by decide) (by rw [s1112]; decide) (by decide) ?_
        have e : itm F (h 249) (h 240 16) (ke (h 249) (h 240 16) A) (ks (h 249) (h 240 16) A) i (kc (h 249) (h 240 16) A) = itP F (h 249) (h 240 16) (ke (h 249) (h 240 16) A) (ks (h 249) (h 240 16) A) := by
          unfold itm
          rw [if_neg s1099, if_neg s1100, if_neg s1102, if_pos s1112]
        rw [e] at hr io
        refine z_aload_n dX10_house_116 rfl (by omega) ?_
        refine z_callV (T := mX10_readPath) (As := []) kX10_readPath ml_X10_145 ⟨by decide, by decide⟩ dX10_house_117 rfl rfl (Nat.le_of_ble_eq_true rfl) sh_240 ⟨by decide, rfl⟩ (Nat.le_refl _) (Nat.le_refl _) (qX10_readPath hg hL hT hF rm (by omega) (by omega) (by omega) (fun G9 a9 c9 q9 n9 => ?_) (fun G9 n9 r9 => ?_))
        ·
          have io2 := io.2 n9
          refine z_goto (tgt := 149) dX10_house_120 (by decide) ?_
          refine y_iinc dX10_house_149 (by decide) rfl rfl (by omega) (by omega) lss_2_1 ?_
          refine z_goto (tgt := 37) dX10_house_152 (by decide) ?_
          refine z_aload_n dX10_house_37 rfl (by omega) ?_
          refine y_geti (k' := 18) fl_X10_42 rfl dX10_house_38 sh_240 (by decide) MH_r18 ?_
          refine z_bipush dX10_house_41 ⟨by decide, by decide⟩ ?_
          refine z_icmp_ne (tgt := 155) dX10_house_43 (by decide) (fun _ => ?_) (fun q => False.elim (by omega))
          refine z_aload_n dX10_house_155 rfl (by omega) ?_
          refine y_geti (k' := 18) fl_X10_42 rfl dX10_house_156 sh_240 (by decide) MH_r18 ?_
          refine z_bipush dX10_house_159 ⟨by decide, by decide⟩ ?_
          refine z_icmp_eq (tgt := 172) dX10_house_161 (by decide) (fun q => False.elim (by omega)) (fun _ => ?_)
          refine z_bipush dX10_house_164 ⟨by decide, by decide⟩ ?_
          refine z_aload_n dX10_house_166 rfl (by omega) ?_
          refine y_geti (k' := 18) fl_X10_42 rfl dX10_house_167 sh_240 (by decide) MH_r18 ?_
          refine y_isub dX10_house_170 (by omega) (by omega) ?_
          refine z_ret (v := some (zi _)) dX10_house_171 trivial (Nat.add_zero _).symm (Nat.add_zero _).symm rfl ?_
          rw [if_neg c51, if_neg n9] at hr
          subst hr
          exact h0 n9 _ _ _ _
        ·
          refine z_goto (tgt := 149) dX10_house_120 (by decide) ?_
          refine y_iinc dX10_house_149 (by decide) rfl rfl (by omega) (by omega) lss_2_1 ?_
          refine z_goto (tgt := 37) dX10_house_152 (by decide) ?_
          rw [if_neg c51, if_pos n9] at hr
          have io1 := io.1 n9
          exact ih _ _ (i + 1) _ io1.1 r9 (by omega) (by omega) io1.2.2 (by omega) (by omega) hr
      by_cases s1114 : kc (h 249) (h 240 16) A = 1114
      ·
        refine z_lsw (tgt := 108) (off := 50) dX10_house_58 (by decide) (by rw [s1114]; decide) (by decide) ?_
        have e : itm F (h 249) (h 240 16) (ke (h 249) (h 240 16) A) (ks (h 249) (h 240 16) A) i (kc (h 249) (h 240 16) A) = itR F (h 249) (h 240 16) (ke (h 249) (h 240 16) A) (ks (h 249) (h 240 16) A) i := by
          unfold itm
          rw [if_neg s1099, if_neg s1100, if_neg s1102, if_neg s1112, if_pos s1114]
        rw [e] at hr io
        refine z_aload_n dX10_house_108 rfl (by omega) ?_
        refine z_iload_n dX10_house_109 rfl ?_
        refine z_callV (T := mX10_readRooms) (As := [_]) kX10_readRooms ml_X10_141 ⟨by decide, by decide⟩ dX10_house_110 rfl rfl (Nat.le_of_ble_eq_true rfl) sh_240 ⟨by decide, rfl⟩ (Nat.le_refl _) (Nat.le_refl _) (qX10_readRooms hg hL hT hF rm (by omega) (by omega) (by omega) i0 (fun G9 a9 c9 q9 n9 => ?_) (fun G9 n9 r9 => ?_))
        ·
          have io2 := io.2 n9
          refine z_goto (tgt := 149) dX10_house_113 (by decide) ?_
          refine y_iinc dX10_house_149 (by decide) rfl rfl (by omega) (by omega) lss_2_1 ?_
          refine z_goto (tgt := 37) dX10_house_152 (by decide) ?_
          refine z_aload_n dX10_house_37 rfl (by omega) ?_
          refine y_geti (k' := 18) fl_X10_42 rfl dX10_house_38 sh_240 (by decide) MH_r18 ?_
          refine z_bipush dX10_house_41 ⟨by decide, by decide⟩ ?_
          refine z_icmp_ne (tgt := 155) dX10_house_43 (by decide) (fun _ => ?_) (fun q => False.elim (by omega))
          refine z_aload_n dX10_house_155 rfl (by omega) ?_
          refine y_geti (k' := 18) fl_X10_42 rfl dX10_house_156 sh_240 (by decide) MH_r18 ?_
          refine z_bipush dX10_house_159 ⟨by decide, by decide⟩ ?_
          refine z_icmp_eq (tgt := 172) dX10_house_161 (by decide) (fun q => False.elim (by omega)) (fun _ => ?_)
          refine z_bipush dX10_house_164 ⟨by decide, by decide⟩ ?_
          refine z_aload_n dX10_house_166 rfl (by omega) ?_
          refine y_geti (k' := 18) fl_X10_42 rfl dX10_house_167 sh_240 (by decide) MH_r18 ?_
          refine y_isub dX10_house_170 (by omega) (by omega) ?_
          refine z_ret (v := some (zi _)) dX10_house_171 trivial (Nat.add_zero _).symm (Nat.add_zero _).symm rfl ?_
          rw [if_neg c51, if_neg n9] at hr
          subst hr
          exact h0 n9 _ _ _ _
        ·
          refine z_goto (tgt := 149) dX10_house_113 (by decide) ?_
          refine y_iinc dX10_house_149 (by decide) rfl rfl (by omega) (by omega) lss_2_1 ?_
          refine z_goto (tgt := 37) dX10_house_152 (by decide) ?_
          rw [if_neg c51, if_pos n9] at hr
          have io1 := io.1 n9
          exact ih _ _ (i + 1) _ io1.1 r9 (by omega) (by omega) io1.2.2 (by omega) (by omega) hr
      refine z_lsw (tgt := 144) (off := 86) dX10_house_58 (by decide) (by simp only [Op.lookupswitch.offset_cons, if_neg (Ne.symm s1099), if_neg (Ne.symm s1100), if_neg (Ne.symm s1102), if_neg (Ne.symm s1112), if_neg (Ne.symm s1114)]; rfl) (by decide) ?_
      have e : itm F (h 249) (h 240 16) (ke (h 249) (h 240 16) A) (ks (h 249) (h 240 16) A) i (kc (h 249) (h 240 16) A) = (ks (h 249) (h 240 16) A, F, ke (h 249) (h 240 16) A) := by
        unfold itm
        rw [if_neg s1099, if_neg s1100, if_neg s1102, if_neg s1112, if_neg s1114]
      rw [e] at hr
      refine z_aload_n dX10_house_144 rfl (by omega) ?_
      refine z_iconst dX10_house_145 ⟨by decide, by decide⟩ ?_
      refine z_callV (T := mX10_must) (As := [_]) kX10_must ml_X10_104 ⟨by decide, by decide⟩ dX10_house_146 rfl rfl (Nat.le_of_ble_eq_true rfl) sh_240 ⟨by decide, rfl⟩ (Nat.le_refl _) (Nat.le_refl _) (qX10_must_0 hg ?_)
      refine y_iinc dX10_house_149 (by decide) rfl rfl (by omega) (by omega) lss_2_1 ?_
      refine z_goto (tgt := 37) dX10_house_152 (by decide) ?_
      refine z_aload_n dX10_house_37 rfl (by omega) ?_
      refine y_geti (k' := 18) fl_X10_42 rfl dX10_house_38 sh_240 (by decide) MH_r18 ?_
      refine z_bipush dX10_house_41 ⟨by decide, by decide⟩ ?_
      refine z_icmp_ne (tgt := 155) dX10_house_43 (by decide) (fun _ => ?_) (fun q => False.elim (by omega))
      refine z_aload_n dX10_house_155 rfl (by omega) ?_
      refine y_geti (k' := 18) fl_X10_42 rfl dX10_house_156 sh_240 (by decide) MH_r18 ?_
      refine z_bipush dX10_house_159 ⟨by decide, by decide⟩ ?_
      refine z_icmp_eq (tgt := 172) dX10_house_161 (by decide) (fun q => False.elim (by omega)) (fun _ => ?_)
      refine z_bipush dX10_house_164 ⟨by decide, by decide⟩ ?_
      refine z_aload_n dX10_house_166 rfl (by omega) ?_
      refine y_geti (k' := 18) fl_X10_42 rfl dX10_house_167 sh_240 (by decide) MH_r18 ?_
      refine y_isub dX10_house_170 (by omega) (by omega) ?_
      refine z_ret (v := some (zi _)) dX10_house_171 trivial (Nat.add_zero _).symm (Nat.add_zero _).symm rfl ?_
      rw [if_neg c51, if_neg (show ¬ ks (h 249) (h 240 16) A = -9 by omega)] at hr
      subst hr
      exact h0 (show ¬ ks (h 249) (h 240 16) A = -9 by omega) _ _ _ _
theorem qX10_house {l : Launch} {g h : zH} {Q : zQt} (hg : zGd g) (hL : 0 ≤ h 240 16 ∧ h 240 16 ≤ 150) (hT : ∀ i, 0 ≤ i → i < h 240 16 → 0 ≤ h 249 i ∧ h 249 i ≤ 255) {F : zH} (f0 : F 0 0 = 4) (f1 : F 0 1 = 0) (f2 : F 0 2 = 0) (f3 : F 0 3 = 0) (h1 : (prs (h 249) (h 240 16) ((h 240 16).toNat + 1) F 0 0).1 = -9 → ∀ G a c q, RM (prs (h 249) (h 240 16) ((h 240 16).toNat + 1) F 0 0).2.1 G → FO (prs (h 249) (h 240 16) ((h 240 16).toNat + 1) F 0 0).2.1 → Q (some (zi (prs (h 249) (h 240 16) ((h 240 16).toNat + 1) F 0 0).2.2)) (SHL, g) (tkR (MH h G a (-9) c q))) (h0 : ¬ (prs (h 249) (h 240 16) ((h 240 16).toNat + 1) F 0 0).1 = -9 → ∀ G a c q, Q (some (zi (-10 - (prs (h 249) (h 240 16) ((h 240 16).toNat + 1) F 0 0).1))) (SHL, g) (MH h G a (prs (h 249) (h 240 16) ((h 240 16).toNat + 1) F 0 0).1 c q)) : zC l mX10_house [zr 240] (SHL, g) h Q := by
  refine z_method kX10_house.1 rfl (Nat.le_of_ble_eq_true rfl) (fun hok hh => ?_)
  have K : zW zX0 l mX10_house ((SHL, g).1.length + zmc mX10_house) (ztot (SHL, g) + zms mX10_house) Q 0 [some (zr 240), none] [] (SHL, g) (MH h h (h 240 17) (h 240 18) (h 240 19) (h 240 20)) := by
    refine z_aload_n dX10_house_0 rfl (by omega) ?_
    refine z_iconst dX10_house_1 ⟨by decide, by decide⟩ ?_
    refine y_puti (k' := 21) fl_X10_114 rfl dX10_house_2 sh_240 (by decide)  ?_
    rw [MH_wg (by decide) (by decide)]
    refine z_aload_n dX10_house_5 rfl (by omega) ?_
    refine z_iconst dX10_house_6 ⟨by decide, by decide⟩ ?_
    refine y_puti (k' := 22) fl_X10_111 rfl dX10_house_7 sh_240 (by decide)  ?_
    rw [MH_wg (by decide) (by decide)]
    refine z_aload_n dX10_house_10 rfl (by omega) ?_
    refine z_iconst dX10_house_11 ⟨by decide, by decide⟩ ?_
    refine y_puti (k' := 24) fl_X10_126 rfl dX10_house_12 sh_240 (by decide)  ?_
    rw [MH_wg (by decide) (by decide)]
    refine z_aload_n dX10_house_15 rfl (by omega) ?_
    refine z_iconst dX10_house_16 ⟨by decide, by decide⟩ ?_
    refine y_puti (k' := 28) fl_X10_129 rfl dX10_house_17 sh_240 (by decide)  ?_
    rw [MH_wg (by decide) (by decide)]
    refine z_aload_n dX10_house_20 rfl (by omega) ?_
    refine z_iconst dX10_house_21 ⟨by decide, by decide⟩ ?_
    refine y_puti (k' := 17) fl_X10_85 rfl dX10_house_22 sh_240 (by decide)  ?_
    rw [MH_w17]
    refine z_aload_n dX10_house_25 rfl (by omega) ?_
    refine z_bipush dX10_house_26 ⟨by decide, by decide⟩ ?_
    refine y_puti (k' := 18) fl_X10_42 rfl dX10_house_28 sh_240 (by decide)  ?_
    rw [MH_w18]
    refine z_iconst dX10_house_31 ⟨by decide, by decide⟩ ?_
    refine z_istore_n dX10_house_32 (by decide) rfl lss_2_1 ?_
    refine z_aload_n dX10_house_33 rfl (by omega) ?_
    refine z_callV (T := mX10_next) (As := []) kX10_next ml_X10_101 ⟨by decide, by decide⟩ dX10_house_34 rfl rfl (Nat.le_of_ble_eq_true rfl) sh_240 ⟨by decide, rfl⟩ (Nat.le_refl _) (Nat.le_refl _) (qX10_next hg hL hT (by omega) (by omega) ?_)
    refine lwX10_house hg hL hT h1 h0 _ F _ 0 0 ⟨⟨by omega, by omega, by omega, by omega⟩, fun p p0 p1 => by omega, fun p p0 p1 => by omega, fun p p0 p1 => by omega⟩ ?_ (by omega) (by omega) (by omega) (fun _ => ⟨f1, f2⟩) (by omega) rfl
    refine ⟨?_, ?_, ?_, ?_, fun p p0 p1 => by omega, fun p p0 p1 => by omega, fun p p0 p1 => by omega⟩
    · rw [f0, zup_ne (by omega), zup_ne (by omega), zup_ne (by omega), zup_same]
    · rw [f1, zup_ne (by omega), zup_ne (by omega), zup_same]
    · rw [f2, zup_ne (by omega), zup_same]
    · rw [f3, zup_same]
  rw [MH_self h] at K
  exact K
/-- now, as a house begins -/
def nwT (F : zH) (k : Int) : Int := if k < 4 * F 0 2 ∧ k % 4 = 0 then F 7 (k / 4) else if k < 4 * F 0 2 ∧ k % 4 = 1 then F 5 (k / 4) else 0
theorem tkD_at {h : zH} {k : Int} (k0 : 0 ≤ k) : ∀ n : Nat, tkD h n 244 k = if k < 4 * (n : Int) ∧ k % 4 = 0 then h 252 (k / 4) else if k < 4 * (n : Int) ∧ k % 4 = 1 then h 253 (k / 4) else h 244 k := by
  intro n
  induction n with
  | zero =>
    rw [if_neg (by omega), if_neg (by omega)]
    rfl
  | succ n ih =>
    show zup (zup (tkD h n) 244 (4 * (n : Int) + 0) (h 252 n)) 244 (4 * (n : Int) + 1) (h 253 n) 244 k = _
    by_cases z : k = 4 * (n : Int) + 1
    · rw [z, zup_same, if_neg (by omega), if_pos (by omega), show (4 * (n : Int) + 1) / 4 = n by omega]
    · rw [zup_ne (fun w => z w.2)]
      by_cases y : k = 4 * (n : Int) + 0
      · rw [y, zup_same, if_pos (by omega), show (4 * (n : Int) + 0) / 4 = n by omega]
      · rw [zup_ne (fun w => y w.2), ih]
        by_cases x : k < 4 * (n : Int)
        · by_cases v : k % 4 = 0
          · rw [if_pos ⟨x, v⟩, if_pos (by omega)]
          · rw [if_neg (fun w => v w.2)]
            by_cases u : k % 4 = 1
            · rw [if_pos ⟨x, u⟩, if_neg (by omega), if_pos (by omega)]
            · rw [if_neg (fun w => u w.2), if_neg (by omega), if_neg (by omega)]
        · rw [if_neg (fun w => x w.1), if_neg (fun w => x w.1), if_neg (by omega), if_neg (by omega)]
theorem tk4_ne {h : zH} {a b : Int} (h1 : a ≠ 241) (h2 : a ≠ 242) (h4 : a ≠ 244) (h0 : ¬ (a = 240 ∧ (b = 0 ∨ b = 1 ∨ b = 3 ∨ b = 5))) : tk4 h a b = h a b := by
  unfold tk4 tk1
  rw [har_ne h4, cpo_ne h2, cpo_ne h1, zup_ne (by omega), zup_ne (by omega), zup_ne (by omega), zup_ne (by omega)]
theorem tkR_ne {h : zH} {a b : Int} (h1 : a < 241 ∨ 247 < a) (h0 : ¬ (a = 240 ∧ (b = 0 ∨ b = 1 ∨ b = 3 ∨ b = 5 ∨ b = 9 ∨ b = 13 ∨ b = 16))) : tkR h a b = h a b := by
  unfold tkR
  rw [zup_ne (by omega), zup_ne (by omega), zup_ne (by omega), zup_ne (by omega), zup_ne (by omega), cpo_ne (by omega), tkD_ne (by omega), tk4_ne (by omega) (by omega) (by omega) (by omega)]
theorem tkR_c (h : zH) : tkR h 240 0 = h 240 21 ∧ tkR h 240 1 = h 240 22 ∧ tkR h 240 3 = h 240 24 ∧ tkR h 240 5 = h 240 28 ∧ tkR h 240 9 = 0 ∧ tkR h 240 13 = 0 ∧ tkR h 240 16 = 0 ∧ tkR h 247 0 = 0 ∧ tkR h 247 1 = 0 := by
  have e : ∀ b, b = 0 ∨ b = 1 ∨ b = 3 ∨ b = 5 → tkR h 240 b = tk1 h 240 b := fun b hb => by
    unfold tkR tk4
    rw [zup_ne (by omega), zup_ne (by omega), zup_ne (by omega), zup_ne (by omega), zup_ne (by omega), cpo_ne (by omega), tkD_ne (by omega), har_ne (by omega), cpo_ne (by omega), cpo_ne (by omega)]
  refine ⟨?_, ?_, ?_, ?_, ?_, ?_, ?_, ?_, ?_⟩
  · rw [e 0 (by omega)]; unfold tk1; rw [zup_ne (by omega), zup_ne (by omega), zup_ne (by omega), zup_same]
  · rw [e 1 (by omega)]; unfold tk1; rw [zup_ne (by omega), zup_ne (by omega), zup_same]
  · rw [e 3 (by omega)]; unfold tk1; rw [zup_ne (by omega), zup_same]
  · rw [e 5 (by omega)]; unfold tk1; rw [zup_same]
  · unfold tkR; rw [zup_ne (by omega), zup_ne (by omega), zup_ne (by omega), zup_ne (by omega), zup_same]
  · unfold tkR; rw [zup_ne (by omega), zup_ne (by omega), zup_ne (by omega), zup_same]
  · unfold tkR; rw [zup_same]
  · unfold tkR; rw [zup_ne (by omega), zup_ne (by omega), zup_same]
  · unfold tkR; rw [zup_ne (by omega), zup_same]
theorem tkR_1 {h : zH} {b : Int} (b0 : 0 ≤ b) (b1 : b < 27) : tkR h 241 b = h 250 b := by
  unfold tkR tk4
  rw [zup_ne (by omega), zup_ne (by omega), zup_ne (by omega), zup_ne (by omega), zup_ne (by omega), cpo_ne (by omega), tkD_ne (by omega), har_ne (by omega), cpo_ne (by omega), cpo_in (by omega) (by omega), show b - 0 + 0 = b by omega]
  unfold tk1
  rw [zup_ne (by omega), zup_ne (by omega), zup_ne (by omega), zup_ne (by omega)]
theorem tkR_2 {h : zH} {b : Int} (b0 : 0 ≤ b) (b1 : b < 18) : tkR h 242 b = h 251 b := by
  unfold tkR tk4
  rw [zup_ne (by omega), zup_ne (by omega), zup_ne (by omega), zup_ne (by omega), zup_ne (by omega), cpo_ne (by omega), tkD_ne (by omega), har_ne (by omega), cpo_in (by omega) (by omega), show b - 0 + 0 = b by omega, cpo_ne (by omega)]
  unfold tk1
  rw [zup_ne (by omega), zup_ne (by omega), zup_ne (by omega), zup_ne (by omega)]
theorem tkR_3 {h : zH} {b : Int} (b0 : 0 ≤ b) (b1 : b < 4) : tkR h 243 b = h 254 b := by
  unfold tkR
  rw [zup_ne (by omega), zup_ne (by omega), zup_ne (by omega), zup_ne (by omega), zup_ne (by omega), cpo_in (by omega) (by omega), show b - 0 + 0 = b by omega, tkD_ne (by omega), tk4_ne (by omega) (by omega) (by omega) (by omega)]
theorem tkR_4 {h : zH} {k : Int} (n2 : 0 ≤ h 240 24) (k0 : 0 ≤ k) (k1 : k ≤ 28) : tkR h 244 k = if k < 4 * h 240 24 ∧ k % 4 = 0 then h 252 (k / 4) else if k < 4 * h 240 24 ∧ k % 4 = 1 then h 253 (k / 4) else 0 := by
  unfold tkR
  rw [zup_ne (by omega), zup_ne (by omega), zup_ne (by omega), zup_ne (by omega), zup_ne (by omega), cpo_ne (by omega), tkD_at k0, show ((h 240 24).toNat : Int) = h 240 24 by omega, tk4_ne (by omega) (by omega) (by omega) (by omega), tk4_ne (by omega) (by omega) (by omega) (by omega)]
  have e : tk4 h 244 k = 0 := by
    unfold tk4
    rw [har_at k0 (by omega)]
  rw [e]
