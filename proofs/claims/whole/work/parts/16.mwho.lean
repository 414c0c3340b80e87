/-! The fewest; who it was; which to ask; a word that is called. -/
def spreadF (h : zH) (s : Int) : Int := if 0 ≤ s ∧ s ≤ pw (h 240 3) - 1 then sprM h s else -1
theorem qX10_spread {l : Launch} {g h : zH} {Q : zQt} (hg : zGd g) (hm : MB h) {x : Int} (hQ : Q (some (zi (spreadF h x))) (SHL, g) h) : zC l mX10_spread [zr 240, zi x] (SHL, g) h Q := by
  refine z_method kX10_spread.1 rfl (Nat.le_of_ble_eq_true rfl) (fun hok hh => ?_)
  obtain ⟨m0, m1, m2, m3, m4, m5, m6, m7⟩ := hm.1
  have e1 := bshl_pw (h 240 3) (by omega) (by omega)
  have p1 := pw_le (n := h 240 3) (by omega)
  have p2 := pw_pos (h 240 3)
  refine z_iload_n dX10_spread_0 rfl ?_
  refine z_i2l dX10_spread_1 ?_
  refine z_lconst0 dX10_spread_2 ?_
  refine z_iconst dX10_spread_3 ⟨by decide, by decide⟩ ?_
  refine z_aload_n dX10_spread_4 rfl (by omega) ?_
  refine y_geti (k' := 3) fl_X10_66 rfl dX10_spread_5 sh_240 (by decide) rfl ?_
  refine z_ishl dX10_spread_8 ?_
  refine z_iconst dX10_spread_9 ⟨by decide, by decide⟩ ?_
  refine y_isub dX10_spread_10 (by omega) (by omega) ?_
  refine z_i2l dX10_spread_11 ?_
  refine z_callS (T := mX10_in) (As := [_, _, _]) kX10_in ml_X10_69 ⟨by decide, by decide⟩ dX10_spread_12 rfl rfl (Nat.le_of_ble_eq_true rfl) (Nat.le_refl _) (Nat.le_refl _) (qX10_in (fun b12 => ?_) (fun b12 => ?_))
  ·
    refine z_if_eq (tgt := 26) dX10_spread_15 (by decide) (fun q => False.elim (by omega)) (fun _ => ?_)
    refine z_aload_n dX10_spread_18 rfl (by omega) ?_
    refine z_iload_n dX10_spread_19 rfl ?_
    refine z_callV (T := mX10_spreadOf) (As := [_]) kX10_spreadOf ml_X10_205 ⟨by decide, by decide⟩ dX10_spread_20 rfl rfl (Nat.le_of_ble_eq_true rfl) sh_240 ⟨by decide, rfl⟩ (Nat.le_refl _) (Nat.le_refl _) (qX10_spreadOf hg hm.sb (by omega) (by omega) ?_)
    refine z_goto (tgt := 27) dX10_spread_23 (by decide) ?_
    refine z_ret (v := some (zi _)) dX10_spread_27 trivial (Nat.add_zero _).symm (Nat.add_zero _).symm rfl ?_
    first
      | (rw [spreadF, if_pos (by omega)] at hQ; exact hQ)
      | (rw [spreadF, if_neg (by omega)] at hQ; exact hQ)
  ·
    refine z_if_eq (tgt := 26) dX10_spread_15 (by decide) (fun _ => ?_) (fun q => False.elim (by omega))
    refine z_iconst dX10_spread_26 ⟨by decide, by decide⟩ ?_
    refine z_ret (v := some (zi _)) dX10_spread_27 trivial (Nat.add_zero _).symm (Nat.add_zero _).symm rfl ?_
    first
      | (rw [spreadF, if_pos (by omega)] at hQ; exact hQ)
      | (rw [spreadF, if_neg (by omega)] at hQ; exact hQ)
def fewB (h : zH) : Nat → Int
  | 0 => -9
  | n + 1 => if (fewB h n = -9 ∨ popc n < popc (fewB h n)) ∧ sprM h n = pw (h 240 3) - 1 then n else fewB h n
theorem fewB_t {h : zH} {n : Nat} (hc : (fewB h n = -9 ∨ popc n < popc (fewB h n)) ∧ sprM h n = pw (h 240 3) - 1) : fewB h (n + 1) = n := by
  show (if _ then _ else _) = _
  rw [if_pos hc]
theorem fewB_f {h : zH} {n : Nat} (hc : ¬ ((fewB h n = -9 ∨ popc n < popc (fewB h n)) ∧ sprM h n = pw (h 240 3) - 1)) : fewB h (n + 1) = fewB h n := by
  show (if _ then _ else _) = _
  rw [if_neg hc]
theorem fewB_r {h : zH} : ∀ n : Nat, fewB h n = -9 ∨ (0 ≤ fewB h n ∧ fewB h n < n) := by
  intro n
  induction n with
  | zero => left; rfl
  | succ n ih =>
    by_cases hc : (fewB h n = -9 ∨ popc n < popc (fewB h n)) ∧ sprM h n = pw (h 240 3) - 1
    · rw [fewB_t hc]; omega
    · rw [fewB_f hc]; omega
theorem lpX10_fewest {l : Launch} {g h : zH} {Q : zQt}  (hg : zGd g) (hm : MB h) (K : zW zX0 l mX10_fewestToAll ((SHL, g).1.length + zmc mX10_fewestToAll) (ztot (SHL, g) + zms mX10_fewestToAll) Q 56 [some (zr 240), some (zi (fewB h ((pw (h 240 3)).toNat))), some (zi (((pw (h 240 3)).toNat : Nat) : Int))] [] (SHL, g) (h)) : ∀ (n i : Nat), i + n = (pw (h 240 3)).toNat → zW zX0 l mX10_fewestToAll ((SHL, g).1.length + zmc mX10_fewestToAll) (ztot (SHL, g) + zms mX10_fewestToAll) Q 5 [some (zr 240), some (zi (fewB h i)), some (zi (i : Int))] [] (SHL, g) (h) := by
  obtain ⟨m0, m1, m2, m3, m4, m5, m6, m7⟩ := hm.1
  have e1 := bshl_pw (h 240 3) (by omega) (by omega)
  have p1 := pw_le (n := h 240 3) (by omega)
  have p2 := pw_pos (h 240 3)
  intro n
  induction n with
  | zero =>
    intro i hi 
    have e9 : i = (pw (h 240 3)).toNat := by omega
    subst e9
    refine z_iload_n dX10_fewestToAll_5 rfl ?_
    refine z_iconst dX10_fewestToAll_6 ⟨by decide, by decide⟩ ?_
    refine z_aload_n dX10_fewestToAll_7 rfl (by omega) ?_
    refine y_geti (k' := 3) fl_X10_66 rfl dX10_fewestToAll_8 sh_240 (by decide) rfl ?_
    refine z_ishl dX10_fewestToAll_11 ?_
    refine z_icmp_ge (tgt := 56) dX10_fewestToAll_12 (by decide) (fun _ => ?_) (fun q => False.elim (by omega))
    exact K
  | succ n ih =>
    intro i hi 
    have f1 := fewB_r (h := h) i
    have r := sit_r (fri := friM h) (gra := graM h) (D := (h 240 3).toNat) (by omega) (s := (i : Int)) (by omega) (by rw [Int.toNat_of_nonneg m2.1]; omega) (h 240 3).toNat
    refine z_iload_n dX10_fewestToAll_5 rfl ?_
    refine z_iconst dX10_fewestToAll_6 ⟨by decide, by decide⟩ ?_
    refine z_aload_n dX10_fewestToAll_7 rfl (by omega) ?_
    refine y_geti (k' := 3) fl_X10_66 rfl dX10_fewestToAll_8 sh_240 (by decide) rfl ?_
    refine z_ishl dX10_fewestToAll_11 ?_
    refine z_icmp_ge (tgt := 56) dX10_fewestToAll_12 (by decide) (fun q => False.elim (by omega)) (fun _ => ?_)
    refine z_iload_n dX10_fewestToAll_15 rfl ?_
    refine z_bipush dX10_fewestToAll_16 ⟨by decide, by decide⟩ ?_
    refine z_icmp_eq (tgt := 32) dX10_fewestToAll_18 (by decide) (fun c18 => ?_) (fun c18 => ?_)
    ·
      refine z_aload_n dX10_fewestToAll_32 rfl (by omega) ?_
      refine z_iload_n dX10_fewestToAll_33 rfl ?_
      refine z_callV (T := mX10_spreadOf) (As := [_]) kX10_spreadOf ml_X10_205 ⟨by decide, by decide⟩ dX10_fewestToAll_34 rfl rfl (Nat.le_of_ble_eq_true rfl) sh_240 ⟨by decide, rfl⟩ (Nat.le_refl _) (Nat.le_refl _) (qX10_spreadOf hg hm.sb (by omega) (by omega) ?_)
      refine z_iconst dX10_fewestToAll_37 ⟨by decide, by decide⟩ ?_
      refine z_aload_n dX10_fewestToAll_38 rfl (by omega) ?_
      refine y_geti (k' := 3) fl_X10_66 rfl dX10_fewestToAll_39 sh_240 (by decide) rfl ?_
      refine z_ishl dX10_fewestToAll_42 ?_
      refine z_iconst dX10_fewestToAll_43 ⟨by decide, by decide⟩ ?_
      refine y_isub dX10_fewestToAll_44 (by omega) (by omega) ?_
      refine z_icmp_ne (tgt := 50) dX10_fewestToAll_45 (by decide) (fun c45 => ?_) (fun c45 => ?_)
      ·
        refine y_iinc dX10_fewestToAll_50 (by decide) rfl rfl (by omega) (by omega) lss_3_2 ?_
        refine z_goto (tgt := 5) dX10_fewestToAll_53 (by decide) ?_
        first
          | (have q := ih (i + 1) (by omega); rw [fewB_t (by omega)] at q; exact q)
          | (have q := ih (i + 1) (by omega); rw [fewB_f (by omega)] at q; exact q)
      ·
        refine z_iload_n dX10_fewestToAll_48 rfl ?_
        refine z_istore_n dX10_fewestToAll_49 (by decide) rfl lss_3_1 ?_
        refine y_iinc dX10_fewestToAll_50 (by decide) rfl rfl (by omega) (by omega) lss_3_2 ?_
        refine z_goto (tgt := 5) dX10_fewestToAll_53 (by decide) ?_
        first
          | (have q := ih (i + 1) (by omega); rw [fewB_t (by omega)] at q; exact q)
          | (have q := ih (i + 1) (by omega); rw [fewB_f (by omega)] at q; exact q)
    ·
      refine z_iload_n dX10_fewestToAll_21 rfl ?_
      refine z_callS (T := mX10_bits) (As := [_]) kX10_bits ml_X10_199 ⟨by decide, by decide⟩ dX10_fewestToAll_22 rfl rfl (Nat.le_of_ble_eq_true rfl) (Nat.le_refl _) (Nat.le_refl _) (qX10_bits (by omega) (by omega) ?_)
      refine z_iload_n dX10_fewestToAll_25 rfl ?_
      refine z_callS (T := mX10_bits) (As := [_]) kX10_bits ml_X10_199 ⟨by decide, by decide⟩ dX10_fewestToAll_26 rfl rfl (Nat.le_of_ble_eq_true rfl) (Nat.le_refl _) (Nat.le_refl _) (qX10_bits (by omega) (by omega) ?_)
      refine z_icmp_ge (tgt := 50) dX10_fewestToAll_29 (by decide) (fun c29 => ?_) (fun c29 => ?_)
      ·
        refine y_iinc dX10_fewestToAll_50 (by decide) rfl rfl (by omega) (by omega) lss_3_2 ?_
        refine z_goto (tgt := 5) dX10_fewestToAll_53 (by decide) ?_
        first
          | (have q := ih (i + 1) (by omega); rw [fewB_t (by omega)] at q; exact q)
          | (have q := ih (i + 1) (by omega); rw [fewB_f (by omega)] at q; exact q)
      ·
        refine z_aload_n dX10_fewestToAll_32 rfl (by omega) ?_
        refine z_iload_n dX10_fewestToAll_33 rfl ?_
        refine z_callV (T := mX10_spreadOf) (As := [_]) kX10_spreadOf ml_X10_205 ⟨by decide, by decide⟩ dX10_fewestToAll_34 rfl rfl (Nat.le_of_ble_eq_true rfl) sh_240 ⟨by decide, rfl⟩ (Nat.le_refl _) (Nat.le_refl _) (qX10_spreadOf hg hm.sb (by omega) (by omega) ?_)
        refine z_iconst dX10_fewestToAll_37 ⟨by decide, by decide⟩ ?_
        refine z_aload_n dX10_fewestToAll_38 rfl (by omega) ?_
        refine y_geti (k' := 3) fl_X10_66 rfl dX10_fewestToAll_39 sh_240 (by decide) rfl ?_
        refine z_ishl dX10_fewestToAll_42 ?_
        refine z_iconst dX10_fewestToAll_43 ⟨by decide, by decide⟩ ?_
        refine y_isub dX10_fewestToAll_44 (by omega) (by omega) ?_
        refine z_icmp_ne (tgt := 50) dX10_fewestToAll_45 (by decide) (fun c45 => ?_) (fun c45 => ?_)
        ·
          refine y_iinc dX10_fewestToAll_50 (by decide) rfl rfl (by omega) (by omega) lss_3_2 ?_
          refine z_goto (tgt := 5) dX10_fewestToAll_53 (by decide) ?_
          first
            | (have q := ih (i + 1) (by omega); rw [fewB_t (by omega)] at q; exact q)
            | (have q := ih (i + 1) (by omega); rw [fewB_f (by omega)] at q; exact q)
        ·
          refine z_iload_n dX10_fewestToAll_48 rfl ?_
          refine z_istore_n dX10_fewestToAll_49 (by decide) rfl lss_3_1 ?_
          refine y_iinc dX10_fewestToAll_50 (by decide) rfl rfl (by omega) (by omega) lss_3_2 ?_
          refine z_goto (tgt := 5) dX10_fewestToAll_53 (by decide) ?_
          first
            | (have q := ih (i + 1) (by omega); rw [fewB_t (by omega)] at q; exact q)
            | (have q := ih (i + 1) (by omega); rw [fewB_f (by omega)] at q; exact q)
theorem qX10_fewestToAll {l : Launch} {g h : zH} {Q : zQt} (hg : zGd g) (hm : MB h) (hQ : Q (some (zi (fewB h (pw (h 240 3)).toNat))) (SHL, g) h) : zC l mX10_fewestToAll [zr 240] (SHL, g) h Q := by
  refine z_method kX10_fewestToAll.1 rfl (Nat.le_of_ble_eq_true rfl) (fun hok hh => ?_)
  obtain ⟨m0, m1, m2, m3, m4, m5, m6, m7⟩ := hm.1
  refine z_bipush dX10_fewestToAll_0 ⟨by decide, by decide⟩ ?_
  refine z_istore_n dX10_fewestToAll_2 (by decide) rfl lss_3_1 ?_
  refine z_iconst dX10_fewestToAll_3 ⟨by decide, by decide⟩ ?_
  refine z_istore_n dX10_fewestToAll_4 (by decide) rfl lss_3_2 ?_
  refine lpX10_fewest hg hm ?_ _ 0 (Nat.zero_add _)
  refine z_iload_n dX10_fewestToAll_56 rfl ?_
  refine z_ret (v := some (zi _)) dX10_fewestToAll_57 trivial (Nat.add_zero _).symm (Nat.add_zero _).symm rfl ?_
  exact hQ
def b2i (b : Bool) : Int := if b then 1 else 0
theorem b2i_0 {b : Bool} : b2i b = 0 ↔ b = false := by cases b <;> simp [b2i]
theorem b2i_1 {b : Bool} : ¬ b2i b = 0 ↔ b = true := by cases b <;> simp [b2i]
/-- does it fit the first k that were heard -/
def whoK (h : zH) (d : Int) : Nat → Bool
  | 0 => true
  | k + 1 => whoK h d k && (decide (mayM h d (h 248 (2 * (k : Int)))) == decide (h 248 (2 * (k : Int) + 1) = 1))
def whoS (h : zH) : Int := bset (fun d => whoK h d (h 240 13).toNat) (h 240 3).toNat
theorem lpX10_who1 {l : Launch} {g h : zH} {Q : zQt} {s d : Int} (hg : zGd g) (hm : MB h) (d0 : 0 ≤ d) (d1 : d < h 240 3) (K : zW zX0 l mX10_whoBits ((SHL, g).1.length + zmc mX10_whoBits) (ztot (SHL, g) + zms mX10_whoBits) Q 79 [some (zr 240), some (zi s), some (zi d), some (zi (b2i (whoK h d ((h 240 13).toNat)))), some (zi (((h 240 13).toNat : Nat) : Int))] [] (SHL, g) (h)) : ∀ (n i : Nat), i + n = (h 240 13).toNat → zW zX0 l mX10_whoBits ((SHL, g).1.length + zmc mX10_whoBits) (ztot (SHL, g) + zms mX10_whoBits) Q 17 [some (zr 240), some (zi s), some (zi d), some (zi (b2i (whoK h d i))), some (zi (i : Int))] [] (SHL, g) (h) := by
  obtain ⟨m0, m1, m2, m3, m4, m5, m6, m7⟩ := hm.1
  intro n
  induction n with
  | zero =>
    intro i hi 
    have e9 : i = (h 240 13).toNat := by omega
    subst e9
    refine z_iload dX10_whoBits_17 rfl ?_
    refine z_aload_n dX10_whoBits_19 rfl (by omega) ?_
    refine y_geti (k' := 13) fl_X10_138 rfl dX10_whoBits_20 sh_240 (by decide) rfl ?_
    refine z_icmp_ge (tgt := 79) dX10_whoBits_23 (by decide) (fun _ => ?_) (fun q => False.elim (by omega))
    exact K
  | succ n ih =>
    intro i hi 
    have f1 := hm.2.2.2.2.2.2.2.1 i (by omega) (by omega)
    refine z_iload dX10_whoBits_17 rfl ?_
    refine z_aload_n dX10_whoBits_19 rfl (by omega) ?_
    refine y_geti (k' := 13) fl_X10_138 rfl dX10_whoBits_20 sh_240 (by decide) rfl ?_
    refine z_icmp_ge (tgt := 79) dX10_whoBits_23 (by decide) (fun q => False.elim (by omega)) (fun _ => ?_)
    refine z_iload_n dX10_whoBits_26 rfl ?_
    refine z_if_eq (tgt := 71) dX10_whoBits_27 (by decide) (fun c27 => ?_) (fun c27 => ?_)
    ·
      refine z_iconst dX10_whoBits_71 ⟨by decide, by decide⟩ ?_
      refine z_istore_n dX10_whoBits_72 (by decide) rfl lss_5_3 ?_
      refine y_iinc dX10_whoBits_73 (by decide) rfl rfl (by omega) (by omega) lss_5_4 ?_
      refine z_goto (tgt := 17) dX10_whoBits_76 (by decide) ?_
      have q := ih (i + 1) (by omega)
      first
        | (rw [show whoK h d (i + 1) = false by show (whoK h d i && _) = false; rw [b2i_0.mp c27]; rfl] at q; exact q)
        | (rw [show whoK h d (i + 1) = true by show (whoK h d i && (_ == _)) = true; rw [b2i_1.mp c27, decide_eq_true b41, decide_eq_true (show h 248 (2 * (i : Int) + 1) = 1 by omega)]; rfl] at q; exact q)
        | (rw [show whoK h d (i + 1) = false by show (whoK h d i && (_ == _)) = false; rw [b2i_1.mp c27, decide_eq_true b41, decide_eq_false (show ¬ h 248 (2 * (i : Int) + 1) = 1 by omega)]; rfl] at q; exact q)
        | (rw [show whoK h d (i + 1) = true by show (whoK h d i && (_ == _)) = true; rw [b2i_1.mp c27, decide_eq_false b41, decide_eq_false (show ¬ h 248 (2 * (i : Int) + 1) = 1 by omega)]; rfl] at q; exact q)
        | (rw [show whoK h d (i + 1) = false by show (whoK h d i && (_ == _)) = false; rw [b2i_1.mp c27, decide_eq_false b41, decide_eq_true (show h 248 (2 * (i : Int) + 1) = 1 by omega)]; rfl] at q; exact q)
    ·
      refine z_aload_n dX10_whoBits_30 rfl (by omega) ?_
      refine z_iload_n dX10_whoBits_31 rfl ?_
      refine z_aload_n dX10_whoBits_32 rfl (by omega) ?_
      refine y_geta (k' := 12) fl_X10_36 rfl dX10_whoBits_33 sh_240 (by decide) (gf_240_12 hg) ?_
      refine z_iconst dX10_whoBits_36 ⟨by decide, by decide⟩ ?_
      refine z_iload dX10_whoBits_37 rfl ?_
      refine y_imul dX10_whoBits_39 (by omega) (by omega) ?_
      refine z_iaload dX10_whoBits_40 sh_248 (by omega) (by omega) rfl ?_
      refine z_callV (T := mX10_may) (As := [_, _]) kX10_may ml_X10_164 ⟨by decide, by decide⟩ dX10_whoBits_41 rfl rfl (Nat.le_of_ble_eq_true rfl) sh_240 ⟨by decide, rfl⟩ (Nat.le_refl _) (Nat.le_refl _) (qX10_may hg hm (by omega) (by omega) (by omega) (by omega) (fun b41 => ?_) (fun b41 => ?_))
      ·
        refine z_aload_n dX10_whoBits_44 rfl (by omega) ?_
        refine y_geta (k' := 12) fl_X10_36 rfl dX10_whoBits_45 sh_240 (by decide) (gf_240_12 hg) ?_
        refine z_iconst dX10_whoBits_48 ⟨by decide, by decide⟩ ?_
        refine z_iload dX10_whoBits_49 rfl ?_
        refine y_imul dX10_whoBits_51 (by omega) (by omega) ?_
        refine z_iconst dX10_whoBits_52 ⟨by decide, by decide⟩ ?_
        refine y_iadd dX10_whoBits_53 (by omega) (by omega) ?_
        refine z_iaload dX10_whoBits_54 sh_248 (by omega) (by omega) rfl ?_
        refine z_iconst dX10_whoBits_55 ⟨by decide, by decide⟩ ?_
        refine z_icmp_ne (tgt := 63) dX10_whoBits_56 (by decide) (fun c56 => ?_) (fun c56 => ?_)
        ·
          refine z_iconst dX10_whoBits_63 ⟨by decide, by decide⟩ ?_
          refine z_icmp_ne (tgt := 71) dX10_whoBits_64 (by decide) (fun _ => ?_) (fun q => False.elim (by omega))
          refine z_iconst dX10_whoBits_71 ⟨by decide, by decide⟩ ?_
          refine z_istore_n dX10_whoBits_72 (by decide) rfl lss_5_3 ?_
          refine y_iinc dX10_whoBits_73 (by decide) rfl rfl (by omega) (by omega) lss_5_4 ?_
          refine z_goto (tgt := 17) dX10_whoBits_76 (by decide) ?_
          have q := ih (i + 1) (by omega)
          first
            | (rw [show whoK h d (i + 1) = false by show (whoK h d i && _) = false; rw [b2i_0.mp c27]; rfl] at q; exact q)
            | (rw [show whoK h d (i + 1) = true by show (whoK h d i && (_ == _)) = true; rw [b2i_1.mp c27, decide_eq_true b41, decide_eq_true (show h 248 (2 * (i : Int) + 1) = 1 by omega)]; rfl] at q; exact q)
            | (rw [show whoK h d (i + 1) = false by show (whoK h d i && (_ == _)) = false; rw [b2i_1.mp c27, decide_eq_true b41, decide_eq_false (show ¬ h 248 (2 * (i : Int) + 1) = 1 by omega)]; rfl] at q; exact q)
            | (rw [show whoK h d (i + 1) = true by show (whoK h d i && (_ == _)) = true; rw [b2i_1.mp c27, decide_eq_false b41, decide_eq_false (show ¬ h 248 (2 * (i : Int) + 1) = 1 by omega)]; rfl] at q; exact q)
            | (rw [show whoK h d (i + 1) = false by show (whoK h d i && (_ == _)) = false; rw [b2i_1.mp c27, decide_eq_false b41, decide_eq_true (show h 248 (2 * (i : Int) + 1) = 1 by omega)]; rfl] at q; exact q)
        ·
          refine z_iconst dX10_whoBits_59 ⟨by decide, by decide⟩ ?_
          refine z_goto (tgt := 64) dX10_whoBits_60 (by decide) ?_
          refine z_icmp_ne (tgt := 71) dX10_whoBits_64 (by decide) (fun q => False.elim (by omega)) (fun _ => ?_)
          refine z_iconst dX10_whoBits_67 ⟨by decide, by decide⟩ ?_
          refine z_goto (tgt := 72) dX10_whoBits_68 (by decide) ?_
          refine z_istore_n dX10_whoBits_72 (by decide) rfl lss_5_3 ?_
          refine y_iinc dX10_whoBits_73 (by decide) rfl rfl (by omega) (by omega) lss_5_4 ?_
          refine z_goto (tgt := 17) dX10_whoBits_76 (by decide) ?_
          have q := ih (i + 1) (by omega)
          first
            | (rw [show whoK h d (i + 1) = false by show (whoK h d i && _) = false; rw [b2i_0.mp c27]; rfl] at q; exact q)
            | (rw [show whoK h d (i + 1) = true by show (whoK h d i && (_ == _)) = true; rw [b2i_1.mp c27, decide_eq_true b41, decide_eq_true (show h 248 (2 * (i : Int) + 1) = 1 by omega)]; rfl] at q; exact q)
            | (rw [show whoK h d (i + 1) = false by show (whoK h d i && (_ == _)) = false; rw [b2i_1.mp c27, decide_eq_true b41, decide_eq_false (show ¬ h 248 (2 * (i : Int) + 1) = 1 by omega)]; rfl] at q; exact q)
            | (rw [show whoK h d (i + 1) = true by show (whoK h d i && (_ == _)) = true; rw [b2i_1.mp c27, decide_eq_false b41, decide_eq_false (show ¬ h 248 (2 * (i : Int) + 1) = 1 by omega)]; rfl] at q; exact q)
            | (rw [show whoK h d (i + 1) = false by show (whoK h d i && (_ == _)) = false; rw [b2i_1.mp c27, decide_eq_false b41, decide_eq_true (show h 248 (2 * (i : Int) + 1) = 1 by omega)]; rfl] at q; exact q)
      ·
        refine z_aload_n dX10_whoBits_44 rfl (by omega) ?_
        refine y_geta (k' := 12) fl_X10_36 rfl dX10_whoBits_45 sh_240 (by decide) (gf_240_12 hg) ?_
        refine z_iconst dX10_whoBits_48 ⟨by decide, by decide⟩ ?_
        refine z_iload dX10_whoBits_49 rfl ?_
        refine y_imul dX10_whoBits_51 (by omega) (by omega) ?_
        refine z_iconst dX10_whoBits_52 ⟨by decide, by decide⟩ ?_
        refine y_iadd dX10_whoBits_53 (by omega) (by omega) ?_
        refine z_iaload dX10_whoBits_54 sh_248 (by omega) (by omega) rfl ?_
        refine z_iconst dX10_whoBits_55 ⟨by decide, by decide⟩ ?_
        refine z_icmp_ne (tgt := 63) dX10_whoBits_56 (by decide) (fun c56 => ?_) (fun c56 => ?_)
        ·
          refine z_iconst dX10_whoBits_63 ⟨by decide, by decide⟩ ?_
          refine z_icmp_ne (tgt := 71) dX10_whoBits_64 (by decide) (fun q => False.elim (by omega)) (fun _ => ?_)
          refine z_iconst dX10_whoBits_67 ⟨by decide, by decide⟩ ?_
          refine z_goto (tgt := 72) dX10_whoBits_68 (by decide) ?_
          refine z_istore_n dX10_whoBits_72 (by decide) rfl lss_5_3 ?_
          refine y_iinc dX10_whoBits_73 (by decide) rfl rfl (by omega) (by omega) lss_5_4 ?_
          refine z_goto (tgt := 17) dX10_whoBits_76 (by decide) ?_
          have q := ih (i + 1) (by omega)
          first
            | (rw [show whoK h d (i + 1) = false by show (whoK h d i && _) = false; rw [b2i_0.mp c27]; rfl] at q; exact q)
            | (rw [show whoK h d (i + 1) = true by show (whoK h d i && (_ == _)) = true; rw [b2i_1.mp c27, decide_eq_true b41, decide_eq_true (show h 248 (2 * (i : Int) + 1) = 1 by omega)]; rfl] at q; exact q)
            | (rw [show whoK h d (i + 1) = false by show (whoK h d i && (_ == _)) = false; rw [b2i_1.mp c27, decide_eq_true b41, decide_eq_false (show ¬ h 248 (2 * (i : Int) + 1) = 1 by omega)]; rfl] at q; exact q)
            | (rw [show whoK h d (i + 1) = true by show (whoK h d i && (_ == _)) = true; rw [b2i_1.mp c27, decide_eq_false b41, decide_eq_false (show ¬ h 248 (2 * (i : Int) + 1) = 1 by omega)]; rfl] at q; exact q)
            | (rw [show whoK h d (i + 1) = false by show (whoK h d i && (_ == _)) = false; rw [b2i_1.mp c27, decide_eq_false b41, decide_eq_true (show h 248 (2 * (i : Int) + 1) = 1 by omega)]; rfl] at q; exact q)
        ·
          refine z_iconst dX10_whoBits_59 ⟨by decide, by decide⟩ ?_
          refine z_goto (tgt := 64) dX10_whoBits_60 (by decide) ?_
          refine z_icmp_ne (tgt := 71) dX10_whoBits_64 (by decide) (fun _ => ?_) (fun q => False.elim (by omega))
          refine z_iconst dX10_whoBits_71 ⟨by decide, by decide⟩ ?_
          refine z_istore_n dX10_whoBits_72 (by decide) rfl lss_5_3 ?_
          refine y_iinc dX10_whoBits_73 (by decide) rfl rfl (by omega) (by omega) lss_5_4 ?_
          refine z_goto (tgt := 17) dX10_whoBits_76 (by decide) ?_
          have q := ih (i + 1) (by omega)
          first
            | (rw [show whoK h d (i + 1) = false by show (whoK h d i && _) = false; rw [b2i_0.mp c27]; rfl] at q; exact q)
            | (rw [show whoK h d (i + 1) = true by show (whoK h d i && (_ == _)) = true; rw [b2i_1.mp c27, decide_eq_true b41, decide_eq_true (show h 248 (2 * (i : Int) + 1) = 1 by omega)]; rfl] at q; exact q)
            | (rw [show whoK h d (i + 1) = false by show (whoK h d i && (_ == _)) = false; rw [b2i_1.mp c27, decide_eq_true b41, decide_eq_false (show ¬ h 248 (2 * (i : Int) + 1) = 1 by omega)]; rfl] at q; exact q)
            | (rw [show whoK h d (i + 1) = true by show (whoK h d i && (_ == _)) = true; rw [b2i_1.mp c27, decide_eq_false b41, decide_eq_false (show ¬ h 248 (2 * (i : Int) + 1) = 1 by omega)]; rfl] at q; exact q)
            | (rw [show whoK h d (i + 1) = false by show (whoK h d i && (_ == _)) = false; rw [b2i_1.mp c27, decide_eq_false b41, decide_eq_true (show h 248 (2 * (i : Int) + 1) = 1 by omega)]; rfl] at q; exact q)
theorem lpX10_who2 {l : Launch} {g h : zH} {Q : zQt}  (hg : zGd g) (hm : MB h) (K : ∀ (x3 x4 : Option zV), zW zX0 l mX10_whoBits ((SHL, g).1.length + zmc mX10_whoBits) (ztot (SHL, g) + zms mX10_whoBits) Q 99 [some (zr 240), some (zi (bset (fun d => whoK h d (h 240 13).toNat) ((h 240 3).toNat))), some (zi (((h 240 3).toNat : Nat) : Int)), x3, x4] [] (SHL, g) (h)) : ∀ (n i : Nat), i + n = (h 240 3).toNat → ∀ (x3 x4 : Option zV), zW zX0 l mX10_whoBits ((SHL, g).1.length + zmc mX10_whoBits) (ztot (SHL, g) + zms mX10_whoBits) Q 4 [some (zr 240), some (zi (bset (fun d => whoK h d (h 240 13).toNat) i)), some (zi (i : Int)), x3, x4] [] (SHL, g) (h) := by
  obtain ⟨m0, m1, m2, m3, m4, m5, m6, m7⟩ := hm.1
  intro n
  induction n with
  | zero =>
    intro i hi x3 x4
    have e9 : i = (h 240 3).toNat := by omega
    subst e9
    refine z_iload_n dX10_whoBits_4 rfl ?_
    refine z_aload_n dX10_whoBits_5 rfl (by omega) ?_
    refine y_geti (k' := 3) fl_X10_66 rfl dX10_whoBits_6 sh_240 (by decide) rfl ?_
    refine z_icmp_ge (tgt := 99) dX10_whoBits_9 (by decide) (fun _ => ?_) (fun q => False.elim (by omega))
    exact K _ _
  | succ n ih =>
    intro i hi x3 x4
    refine z_iload_n dX10_whoBits_4 rfl ?_
    refine z_aload_n dX10_whoBits_5 rfl (by omega) ?_
    refine y_geti (k' := 3) fl_X10_66 rfl dX10_whoBits_6 sh_240 (by decide) rfl ?_
    refine z_icmp_ge (tgt := 99) dX10_whoBits_9 (by decide) (fun q => False.elim (by omega)) (fun _ => ?_)
    refine z_iconst dX10_whoBits_12 ⟨by decide, by decide⟩ ?_
    refine z_istore_n dX10_whoBits_13 (by decide) rfl lss_5_3 ?_
    refine z_iconst dX10_whoBits_14 ⟨by decide, by decide⟩ ?_
    refine z_istore dX10_whoBits_15 (by decide) rfl lss_5_4 ?_
    refine lpX10_who1 (s := bset (fun d => whoK h d (h 240 13).toNat) i) (d := i) hg hm (by omega) (by omega) ?_ _ 0 (Nat.zero_add _)
    refine z_iload_n dX10_whoBits_79 rfl ?_
    refine z_iload_n dX10_whoBits_80 rfl ?_
    refine z_if_eq (tgt := 90) dX10_whoBits_81 (by decide) (fun c81 => ?_) (fun c81 => ?_)
    ·
      refine z_iconst dX10_whoBits_90 ⟨by decide, by decide⟩ ?_
      refine z_ior dX10_whoBits_91 ?_
      refine z_istore_n dX10_whoBits_92 (by decide) rfl lss_5_1 ?_
      refine y_iinc dX10_whoBits_93 (by decide) rfl rfl (by omega) (by omega) lss_5_2 ?_
      refine z_goto (tgt := 4) dX10_whoBits_96 (by decide) ?_
      have q := ih (i + 1) (by omega)
      first
        | (rw [bset_t (f := fun d => whoK h d (h 240 13).toNat) (b2i_1.mp c81)] at q; exact q _ _)
        | (rw [bset_f (f := fun d => whoK h d (h 240 13).toNat) (b2i_0.mp c81)] at q; rw [bor_0 (bset_32 (by omega))]; exact q _ _)
    ·
      refine z_iconst dX10_whoBits_84 ⟨by decide, by decide⟩ ?_
      refine z_iload_n dX10_whoBits_85 rfl ?_
      refine z_ishl dX10_whoBits_86 ?_
      refine z_goto (tgt := 91) dX10_whoBits_87 (by decide) ?_
      refine z_ior dX10_whoBits_91 ?_
      refine z_istore_n dX10_whoBits_92 (by decide) rfl lss_5_1 ?_
      refine y_iinc dX10_whoBits_93 (by decide) rfl rfl (by omega) (by omega) lss_5_2 ?_
      refine z_goto (tgt := 4) dX10_whoBits_96 (by decide) ?_
      have q := ih (i + 1) (by omega)
      first
        | (rw [bset_t (f := fun d => whoK h d (h 240 13).toNat) (b2i_1.mp c81)] at q; exact q _ _)
        | (rw [bset_f (f := fun d => whoK h d (h 240 13).toNat) (b2i_0.mp c81)] at q; rw [bor_0 (bset_32 (by omega))]; exact q _ _)
theorem qX10_whoBits {l : Launch} {g h : zH} {Q : zQt} (hg : zGd g) (hm : MB h) (hQ : Q (some (zi (whoS h))) (SHL, g) h) : zC l mX10_whoBits [zr 240] (SHL, g) h Q := by
  refine z_method kX10_whoBits.1 rfl (Nat.le_of_ble_eq_true rfl) (fun hok hh => ?_)
  refine z_iconst dX10_whoBits_0 ⟨by decide, by decide⟩ ?_
  refine z_istore_n dX10_whoBits_1 (by decide) rfl lss_5_1 ?_
  refine z_iconst dX10_whoBits_2 ⟨by decide, by decide⟩ ?_
  refine z_istore_n dX10_whoBits_3 (by decide) rfl lss_5_2 ?_
  refine lpX10_who2 hg hm (fun x3 x4 => ?_) _ 0 (Nat.zero_add _) _ _
  refine z_iload_n dX10_whoBits_99 rfl ?_
  refine z_ret (v := some (zi _)) dX10_whoBits_100 trivial (Nat.add_zero _).symm (Nat.add_zero _).symm rfl ?_
  exact hQ
theorem qX10_who {l : Launch} {g h : zH} {Q : zQt} (hg : zGd g) (hm : MB h) (hQ : Q (some (zi (whoS h))) (SHL, g) h) : zC l mX10_who [zr 240] (SHL, g) h Q := by
  refine z_method kX10_who.1 rfl (Nat.le_of_ble_eq_true rfl) (fun hok hh => ?_)
  refine z_aload_n dX10_who_0 rfl (by omega) ?_
  refine z_callV (T := mX10_whoBits) (As := []) kX10_whoBits ml_X10_237 ⟨by decide, by decide⟩ dX10_who_1 rfl rfl (Nat.le_of_ble_eq_true rfl) sh_240 ⟨by decide, rfl⟩ (Nat.le_refl _) (Nat.le_refl _) (qX10_whoBits hg hm ?_)
  refine z_ret (v := some (zi _)) dX10_who_4 trivial (Nat.add_zero _).symm (Nat.add_zero _).symm rfl ?_
  exact hQ
def askG (h : zH) (s p : Int) : Nat → Int := sumN (fun d => if hasb s d ∧ mayM h d p then 1 else 0)
def askB (h : zH) (s : Int) : Nat → Int × Int
  | 0 => (-9, popc s)
  | n + 1 => if max (askG h s n (h 240 3).toNat) (popc s - askG h s n (h 240 3).toNat) < (askB h s n).2 then (n, max (askG h s n (h 240 3).toNat) (popc s - askG h s n (h 240 3).toNat)) else askB h s n
theorem askB_t {h : zH} {s v : Int} {n : Nat} (hv : max (askG h s n (h 240 3).toNat) (popc s - askG h s n (h 240 3).toNat) = v) (hc : v < (askB h s n).2) : askB h s (n + 1) = ((n : Int), v) := by
  subst hv
  exact if_pos hc
theorem askB_f {h : zH} {s : Int} {n : Nat} (hc : ¬ max (askG h s n (h 240 3).toNat) (popc s - askG h s n (h 240 3).toNat) < (askB h s n).2) : askB h s (n + 1) = askB h s n := if_neg hc
theorem askG_r {h : zH} {s p : Int} (n : Nat) : 0 ≤ askG h s p n ∧ askG h s p n ≤ n := by
  have := sumN_r (f := fun d => if hasb s d ∧ mayM h d p then 1 else 0) (B := 1) (N := n) (fun d _ _ => by split <;> omega) n (by omega)
  unfold askG
  omega
theorem askB_r {h : zH} {s : Int} (hD : (h 240 3).toNat ≤ 6) : ∀ n : Nat, -10 ≤ (askB h s n).2 ∧ (askB h s n).2 ≤ 20 := by
  intro n
  have a := popc_r s
  induction n with
  | zero => show -10 ≤ popc s ∧ popc s ≤ 20; omega
  | succ n ih =>
    have b := askG_r (h := h) (s := s) (p := n) (h 240 3).toNat
    unfold askB
    split
    · simp only; omega
    · exact ih
theorem lpX10_ask1 {l : Launch} {g h : zH} {Q : zQt} {s b e p : Int} (hg : zGd g) (hm : MB h) (p0 : 0 ≤ p) (p1 : p < h 240 1) (K : zW zX0 l mX10_ask ((SHL, g).1.length + zmc mX10_ask) (ztot (SHL, g) + zms mX10_ask) Q 76 [some (zr 240), some (zi s), some (zi b), some (zi e), some (zi p), some (zi (askG h s p ((h 240 3).toNat))), some (zi (((h 240 3).toNat : Nat) : Int))] [] (SHL, g) (h)) : ∀ (n i : Nat), i + n = (h 240 3).toNat → zW zX0 l mX10_ask ((SHL, g).1.length + zmc mX10_ask) (ztot (SHL, g) + zms mX10_ask) Q 31 [some (zr 240), some (zi s), some (zi b), some (zi e), some (zi p), some (zi (askG h s p i)), some (zi (i : Int))] [] (SHL, g) (h) := by
  obtain ⟨m0, m1, m2, m3, m4, m5, m6, m7⟩ := hm.1
  intro n
  induction n with
  | zero =>
    intro i hi 
    have e9 : i = (h 240 3).toNat := by omega
    subst e9
    refine z_iload dX10_ask_31 rfl ?_
    refine z_aload_n dX10_ask_33 rfl (by omega) ?_
    refine y_geti (k' := 3) fl_X10_66 rfl dX10_ask_34 sh_240 (by decide) rfl ?_
    refine z_icmp_ge (tgt := 76) dX10_ask_37 (by decide) (fun _ => ?_) (fun q => False.elim (by omega))
    exact K
  | succ n ih =>
    intro i hi 
    have f1 := askG_r (h := h) (s := s) (p := p) i
    refine z_iload dX10_ask_31 rfl ?_
    refine z_aload_n dX10_ask_33 rfl (by omega) ?_
    refine y_geti (k' := 3) fl_X10_66 rfl dX10_ask_34 sh_240 (by decide) rfl ?_
    refine z_icmp_ge (tgt := 76) dX10_ask_37 (by decide) (fun q => False.elim (by omega)) (fun _ => ?_)
    refine z_iload dX10_ask_40 rfl ?_
    refine z_iload_n dX10_ask_42 rfl ?_
    refine z_iload dX10_ask_43 rfl ?_
    refine z_callS (T := mX10_has) (As := [_, _]) kX10_has ml_X10_171 ⟨by decide, by decide⟩ dX10_ask_45 rfl rfl (Nat.le_of_ble_eq_true rfl) (Nat.le_refl _) (Nat.le_refl _) (qX10_has (fun b45 => ?_) (fun b45 => ?_))
    ·
      refine z_if_eq (tgt := 66) dX10_ask_48 (by decide) (fun q => False.elim (by omega)) (fun _ => ?_)
      refine z_aload_n dX10_ask_51 rfl (by omega) ?_
      refine z_iload dX10_ask_52 rfl ?_
      refine z_iload dX10_ask_54 rfl ?_
      refine z_callV (T := mX10_may) (As := [_, _]) kX10_may ml_X10_164 ⟨by decide, by decide⟩ dX10_ask_56 rfl rfl (Nat.le_of_ble_eq_true rfl) sh_240 ⟨by decide, rfl⟩ (Nat.le_refl _) (Nat.le_refl _) (qX10_may hg hm (by omega) (by omega) (by omega) (by omega) (fun b56 => ?_) (fun b56 => ?_))
      ·
        refine z_if_eq (tgt := 66) dX10_ask_59 (by decide) (fun q => False.elim (by omega)) (fun _ => ?_)
        refine z_iconst dX10_ask_62 ⟨by decide, by decide⟩ ?_
        refine z_goto (tgt := 67) dX10_ask_63 (by decide) ?_
        refine y_iadd dX10_ask_67 (by omega) (by omega) ?_
        refine z_istore dX10_ask_68 (by decide) rfl lss_7_5 ?_
        refine y_iinc dX10_ask_70 (by decide) rfl rfl (by omega) (by omega) lss_7_6 ?_
        refine z_goto (tgt := 31) dX10_ask_73 (by decide) ?_
        have q := ih (i + 1) (by omega)
        first
          | (rw [show askG h s p (i + 1) = askG h s p i + 1 by show sumN _ i + (if _ then _ else _) = _; rw [if_pos ⟨b45, b56⟩]; rfl] at q; exact q)
          | (rw [show askG h s p (i + 1) = askG h s p i + 0 by show sumN _ i + (if _ then _ else _) = _; rw [if_neg (fun z => b56 z.2)]; rfl] at q; exact q)
          | (rw [show askG h s p (i + 1) = askG h s p i + 0 by show sumN _ i + (if _ then _ else _) = _; rw [if_neg (fun z => b45 z.1)]; rfl] at q; exact q)
      ·
        refine z_if_eq (tgt := 66) dX10_ask_59 (by decide) (fun _ => ?_) (fun q => False.elim (by omega))
        refine z_iconst dX10_ask_66 ⟨by decide, by decide⟩ ?_
        refine y_iadd dX10_ask_67 (by omega) (by omega) ?_
        refine z_istore dX10_ask_68 (by decide) rfl lss_7_5 ?_
        refine y_iinc dX10_ask_70 (by decide) rfl rfl (by omega) (by omega) lss_7_6 ?_
        refine z_goto (tgt := 31) dX10_ask_73 (by decide) ?_
        have q := ih (i + 1) (by omega)
        first
          | (rw [show askG h s p (i + 1) = askG h s p i + 1 by show sumN _ i + (if _ then _ else _) = _; rw [if_pos ⟨b45, b56⟩]; rfl] at q; exact q)
          | (rw [show askG h s p (i + 1) = askG h s p i + 0 by show sumN _ i + (if _ then _ else _) = _; rw [if_neg (fun z => b56 z.2)]; rfl] at q; exact q)
          | (rw [show askG h s p (i + 1) = askG h s p i + 0 by show sumN _ i + (if _ then _ else _) = _; rw [if_neg (fun z => b45 z.1)]; rfl] at q; exact q)
    ·
      refine z_if_eq (tgt := 66) dX10_ask_48 (by decide) (fun _ => ?_) (fun q => False.elim (by omega))
      refine z_iconst dX10_ask_66 ⟨by decide, by decide⟩ ?_
      refine y_iadd dX10_ask_67 (by omega) (by omega) ?_
      refine z_istore dX10_ask_68 (by decide) rfl lss_7_5 ?_
      refine y_iinc dX10_ask_70 (by decide) rfl rfl (by omega) (by omega) lss_7_6 ?_
      refine z_goto (tgt := 31) dX10_ask_73 (by decide) ?_
      have q := ih (i + 1) (by omega)
      first
        | (rw [show askG h s p (i + 1) = askG h s p i + 1 by show sumN _ i + (if _ then _ else _) = _; rw [if_pos ⟨b45, b56⟩]; rfl] at q; exact q)
        | (rw [show askG h s p (i + 1) = askG h s p i + 0 by show sumN _ i + (if _ then _ else _) = _; rw [if_neg (fun z => b56 z.2)]; rfl] at q; exact q)
        | (rw [show askG h s p (i + 1) = askG h s p i + 0 by show sumN _ i + (if _ then _ else _) = _; rw [if_neg (fun z => b45 z.1)]; rfl] at q; exact q)
theorem lpX10_ask2 {l : Launch} {g h : zH} {Q : zQt} {s : Int} (hg : zGd g) (hm : MB h) (s0 : 0 ≤ s) (s1 : s < 64) (K : ∀ (x5 x6 : Option zV), zW zX0 l mX10_ask ((SHL, g).1.length + zmc mX10_ask) (ztot (SHL, g) + zms mX10_ask) Q 120 [some (zr 240), some (zi s), some (zi (askB h s ((h 240 1).toNat)).1), some (zi (askB h s ((h 240 1).toNat)).2), some (zi (((h 240 1).toNat : Nat) : Int)), x5, x6] [] (SHL, g) (h)) : ∀ (n i : Nat), i + n = (h 240 1).toNat → ∀ (x5 x6 : Option zV), zW zX0 l mX10_ask ((SHL, g).1.length + zmc mX10_ask) (ztot (SHL, g) + zms mX10_ask) Q 16 [some (zr 240), some (zi s), some (zi (askB h s i).1), some (zi (askB h s i).2), some (zi (i : Int)), x5, x6] [] (SHL, g) (h) := by
  obtain ⟨m0, m1, m2, m3, m4, m5, m6, m7⟩ := hm.1
  intro n
  induction n with
  | zero =>
    intro i hi x5 x6
    have e9 : i = (h 240 1).toNat := by omega
    subst e9
    refine z_iload dX10_ask_16 rfl ?_
    refine z_aload_n dX10_ask_18 rfl (by omega) ?_
    refine y_geti (k' := 1) fl_X10_73 rfl dX10_ask_19 sh_240 (by decide) rfl ?_
    refine z_icmp_ge (tgt := 120) dX10_ask_22 (by decide) (fun _ => ?_) (fun q => False.elim (by omega))
    exact K _ _
  | succ n ih =>
    intro i hi x5 x6
    refine z_iload dX10_ask_16 rfl ?_
    refine z_aload_n dX10_ask_18 rfl (by omega) ?_
    refine y_geti (k' := 1) fl_X10_73 rfl dX10_ask_19 sh_240 (by decide) rfl ?_
    refine z_icmp_ge (tgt := 120) dX10_ask_22 (by decide) (fun q => False.elim (by omega)) (fun _ => ?_)
    refine z_iconst dX10_ask_25 ⟨by decide, by decide⟩ ?_
    refine z_istore dX10_ask_26 (by decide) rfl lss_7_5 ?_
    refine z_iconst dX10_ask_28 ⟨by decide, by decide⟩ ?_
    refine z_istore dX10_ask_29 (by decide) rfl lss_7_6 ?_
    refine lpX10_ask1 (s := s) (b := (askB h s i).1) (e := (askB h s i).2) (p := i) hg hm (by omega) (by omega) ?_ _ 0 (Nat.zero_add _)
    have f1 := askG_r (h := h) (s := s) (p := i) (h 240 3).toNat
    have f2 := popc_r s
    have f3 := askB_r (h := h) (s := s) (by omega) i
    refine z_iload dX10_ask_76 rfl ?_
    refine z_iload_n dX10_ask_78 rfl ?_
    refine z_callS (T := mX10_bits) (As := [_]) kX10_bits ml_X10_199 ⟨by decide, by decide⟩ dX10_ask_79 rfl rfl (Nat.le_of_ble_eq_true rfl) (Nat.le_refl _) (Nat.le_refl _) (qX10_bits (by omega) (by omega) ?_)
    refine z_iload dX10_ask_82 rfl ?_
    refine y_isub dX10_ask_84 (by omega) (by omega) ?_
    refine z_icmp_le (tgt := 93) dX10_ask_85 (by decide) (fun c85 => ?_) (fun c85 => ?_)
    ·
      refine z_iload_n dX10_ask_93 rfl ?_
      refine z_callS (T := mX10_bits) (As := [_]) kX10_bits ml_X10_199 ⟨by decide, by decide⟩ dX10_ask_94 rfl rfl (Nat.le_of_ble_eq_true rfl) (Nat.le_refl _) (Nat.le_refl _) (qX10_bits (by omega) (by omega) ?_)
      refine z_iload dX10_ask_97 rfl ?_
      refine y_isub dX10_ask_99 (by omega) (by omega) ?_
      refine z_istore dX10_ask_100 (by decide) rfl lss_7_6 ?_
      refine z_iload dX10_ask_102 rfl ?_
      refine z_iload_n dX10_ask_104 rfl ?_
      refine z_icmp_ge (tgt := 114) dX10_ask_105 (by decide) (fun c105 => ?_) (fun c105 => ?_)
      ·
        refine y_iinc dX10_ask_114 (by decide) rfl rfl (by omega) (by omega) lss_7_4 ?_
        refine z_goto (tgt := 16) dX10_ask_117 (by decide) ?_
        have q := ih (i + 1) (by omega)
        first
          | (rw [askB_t (v := askG h s i (h 240 3).toNat) (by omega) (by omega)] at q; exact q _ _)
          | (rw [askB_t (v := popc s - askG h s i (h 240 3).toNat) (by omega) (by omega)] at q; exact q _ _)
          | (rw [askB_f (by omega)] at q; exact q _ _)
      ·
        refine z_iload dX10_ask_108 rfl ?_
        refine z_istore_n dX10_ask_110 (by decide) rfl lss_7_3 ?_
        refine z_iload dX10_ask_111 rfl ?_
        refine z_istore_n dX10_ask_113 (by decide) rfl lss_7_2 ?_
        refine y_iinc dX10_ask_114 (by decide) rfl rfl (by omega) (by omega) lss_7_4 ?_
        refine z_goto (tgt := 16) dX10_ask_117 (by decide) ?_
        have q := ih (i + 1) (by omega)
        first
          | (rw [askB_t (v := askG h s i (h 240 3).toNat) (by omega) (by omega)] at q; exact q _ _)
          | (rw [askB_t (v := popc s - askG h s i (h 240 3).toNat) (by omega) (by omega)] at q; exact q _ _)
          | (rw [askB_f (by omega)] at q; exact q _ _)
    ·
      refine z_iload dX10_ask_88 rfl ?_
      refine z_goto (tgt := 100) dX10_ask_90 (by decide) ?_
      refine z_istore dX10_ask_100 (by decide) rfl lss_7_6 ?_
      refine z_iload dX10_ask_102 rfl ?_
      refine z_iload_n dX10_ask_104 rfl ?_
      refine z_icmp_ge (tgt := 114) dX10_ask_105 (by decide) (fun c105 => ?_) (fun c105 => ?_)
      ·
        refine y_iinc dX10_ask_114 (by decide) rfl rfl (by omega) (by omega) lss_7_4 ?_
        refine z_goto (tgt := 16) dX10_ask_117 (by decide) ?_
        have q := ih (i + 1) (by omega)
        first
          | (rw [askB_t (v := askG h s i (h 240 3).toNat) (by omega) (by omega)] at q; exact q _ _)
          | (rw [askB_t (v := popc s - askG h s i (h 240 3).toNat) (by omega) (by omega)] at q; exact q _ _)
          | (rw [askB_f (by omega)] at q; exact q _ _)
      ·
        refine z_iload dX10_ask_108 rfl ?_
        refine z_istore_n dX10_ask_110 (by decide) rfl lss_7_3 ?_
        refine z_iload dX10_ask_111 rfl ?_
        refine z_istore_n dX10_ask_113 (by decide) rfl lss_7_2 ?_
        refine y_iinc dX10_ask_114 (by decide) rfl rfl (by omega) (by omega) lss_7_4 ?_
        refine z_goto (tgt := 16) dX10_ask_117 (by decide) ?_
        have q := ih (i + 1) (by omega)
        first
          | (rw [askB_t (v := askG h s i (h 240 3).toNat) (by omega) (by omega)] at q; exact q _ _)
          | (rw [askB_t (v := popc s - askG h s i (h 240 3).toNat) (by omega) (by omega)] at q; exact q _ _)
          | (rw [askB_f (by omega)] at q; exact q _ _)
theorem qX10_ask {l : Launch} {g h : zH} {Q : zQt} (hg : zGd g) (hm : MB h) (hQ : Q (some (zi (askB h (whoS h) (h 240 1).toNat).1)) (SHL, g) h) : zC l mX10_ask [zr 240] (SHL, g) h Q := by
  refine z_method kX10_ask.1 rfl (Nat.le_of_ble_eq_true rfl) (fun hok hh => ?_)
  obtain ⟨m0, m1, m2, m3, m4, m5, m6, m7⟩ := hm.1
  have r := bset_r (f := fun d => whoK h d (h 240 13).toNat) (h 240 3).toNat (by omega)
  have p1 := pw_le (n := ((h 240 3).toNat : Int)) (by omega)
  have s0 : 0 ≤ whoS h := r.1
  have s1 : whoS h < 64 := Int.lt_of_lt_of_le r.2 p1
  refine z_aload_n dX10_ask_0 rfl (by omega) ?_
  refine z_callV (T := mX10_whoBits) (As := []) kX10_whoBits ml_X10_237 ⟨by decide, by decide⟩ dX10_ask_1 rfl rfl (Nat.le_of_ble_eq_true rfl) sh_240 ⟨by decide, rfl⟩ (Nat.le_refl _) (Nat.le_refl _) (qX10_whoBits hg hm ?_)
  refine z_istore_n dX10_ask_4 (by decide) rfl lss_7_1 ?_
  refine z_bipush dX10_ask_5 ⟨by decide, by decide⟩ ?_
  refine z_istore_n dX10_ask_7 (by decide) rfl lss_7_2 ?_
  refine z_iload_n dX10_ask_8 rfl ?_
  refine z_callS (T := mX10_bits) (As := [_]) kX10_bits ml_X10_199 ⟨by decide, by decide⟩ dX10_ask_9 rfl rfl (Nat.le_of_ble_eq_true rfl) (Nat.le_refl _) (Nat.le_refl _) (qX10_bits (by omega) (by omega) ?_)
  refine z_istore_n dX10_ask_12 (by decide) rfl lss_7_3 ?_
  refine z_iconst dX10_ask_13 ⟨by decide, by decide⟩ ?_
  refine z_istore dX10_ask_14 (by decide) rfl lss_7_4 ?_
  refine lpX10_ask2 (s := whoS h) hg hm s0 s1 (fun x5 x6 => ?_) _ 0 (Nat.zero_add _) _ _
  refine z_iload_n dX10_ask_120 rfl ?_
  refine z_ret (v := some (zi _)) dX10_ask_121 trivial (Nat.add_zero _).symm (Nat.add_zero _).symm rfl ?_
  exact hQ
def thereS (h : zH) (r : Int) : Int := bset (fun d => decide (h 244 (4 * d) = r)) (h 240 3).toNat
/-- the stones of those who laugh roll off -/
def stz (h : zH) (L : Int) : Nat → zH
  | 0 => h
  | n + 1 => zup (stz h L n) 244 (4 * (n : Int) + 1) (if hasb L n then 0 else stz h L n 244 (4 * (n : Int) + 1))
theorem sprM_eq {h h' : zH} (h1 : h' 240 3 = h 240 3) (h2 : h' 242 = h 242) (s : Int) : sprM h' s = sprM h s := by
  unfold sprM friM graM
  rw [h1, h2]
theorem SB_eq {h h' : zH} (h1 : h' 240 3 = h 240 3) (h2 : h' 242 = h 242) (hs : SB h) : SB h' := by
  unfold SB
  rw [h1, h2]
  exact hs
theorem KP_row {h : zH} {a : Int} (h1 : a ≠ 245) (h2 : a ≠ 240) : KP h a = h a := funext fun b => KP_ne h1 (fun q => h2 q.1)
theorem stz_ne {h : zH} {L a b : Int} (hab : a ≠ 244 ∨ (∀ d : Int, b ≠ 4 * d + 1)) : ∀ n : Nat, stz h L n a b = h a b := by
  intro n
  induction n with
  | zero => rfl
  | succ n ih =>
    show zup _ _ _ _ _ _ = _
    rw [zup_ne (by rcases hab with q | q; exact fun z => q z.1; exact fun z => q n z.2), ih]
def callsR (h : zH) (r : Int) : Int × zH := if 0 ≤ r ∧ r < h 240 0 then (if band (thereS h r) (bxor (h 244 28) (-1)) = 0 then (-2, h) else
  (sprM h (bor (h 244 28) (thereS h r)), stz (zup (KP h) 244 28 (sprM h (bor (h 244 28) (thereS h r)))) (sprM h (bor (h 244 28) (thereS h r))) (h 240 3).toNat)) else (-1, h)
theorem lpX10_calls1 {l : Launch} {g h : zH} {Q : zQt} {r : Int} (hg : zGd g) (hm : MB h) (K : zW zX0 l mX10_calls ((SHL, g).1.length + zmc mX10_calls) (ztot (SHL, g) + zms mX10_calls) Q 48 [some (zr 240), some (zi r), some (zi (bset (fun d => decide (h 244 (4 * d) = r)) ((h 240 3).toNat))), some (zi (((h 240 3).toNat : Nat) : Int))] [] (SHL, g) (h)) : ∀ (n i : Nat), i + n = (h 240 3).toNat → zW zX0 l mX10_calls ((SHL, g).1.length + zmc mX10_calls) (ztot (SHL, g) + zms mX10_calls) Q 14 [some (zr 240), some (zi r), some (zi (bset (fun d => decide (h 244 (4 * d) = r)) i)), some (zi (i : Int))] [] (SHL, g) (h) := by
  obtain ⟨m0, m1, m2, m3, m4, m5, m6, m7⟩ := hm.1
  intro n
  induction n with
  | zero =>
    intro i hi 
    have e9 : i = (h 240 3).toNat := by omega
    subst e9
    refine z_iload_n dX10_calls_14 rfl ?_
    refine z_aload_n dX10_calls_15 rfl (by omega) ?_
    refine y_geti (k' := 3) fl_X10_66 rfl dX10_calls_16 sh_240 (by decide) rfl ?_
    refine z_icmp_ge (tgt := 48) dX10_calls_19 (by decide) (fun _ => ?_) (fun q => False.elim (by omega))
    exact K
  | succ n ih =>
    intro i hi 
    refine z_iload_n dX10_calls_14 rfl ?_
    refine z_aload_n dX10_calls_15 rfl (by omega) ?_
    refine y_geti (k' := 3) fl_X10_66 rfl dX10_calls_16 sh_240 (by decide) rfl ?_
    refine z_icmp_ge (tgt := 48) dX10_calls_19 (by decide) (fun q => False.elim (by omega)) (fun _ => ?_)
    refine z_iload_n dX10_calls_22 rfl ?_
    refine z_aload_n dX10_calls_23 rfl (by omega) ?_
    refine z_iload_n dX10_calls_24 rfl ?_
    refine z_iconst dX10_calls_25 ⟨by decide, by decide⟩ ?_
    refine z_callV (T := mX10_of) (As := [_, _]) kX10_of ml_X10_76 ⟨by decide, by decide⟩ dX10_calls_26 rfl rfl (Nat.le_of_ble_eq_true rfl) sh_240 ⟨by decide, rfl⟩ (Nat.le_refl _) (Nat.le_refl _) (qX10_of hg (by omega) (by omega) (by omega) (by omega) (by rw [Int.add_zero]) ?_)
    refine z_iload_n dX10_calls_29 rfl ?_
    refine z_icmp_ne (tgt := 39) dX10_calls_30 (by decide) (fun c30 => ?_) (fun c30 => ?_)
    ·
      refine z_iconst dX10_calls_39 ⟨by decide, by decide⟩ ?_
      refine z_ior dX10_calls_40 ?_
      refine z_istore_n dX10_calls_41 (by decide) rfl lss_4_2 ?_
      refine y_iinc dX10_calls_42 (by decide) rfl rfl (by omega) (by omega) lss_4_3 ?_
      refine z_goto (tgt := 14) dX10_calls_45 (by decide) ?_
      have q := ih (i + 1) (by omega)
      first
        | (rw [bset_t (f := fun d => decide (h 244 (4 * d) = r)) (decide_eq_true (show h 244 (4 * (i : Int)) = r by omega))] at q; exact q)
        | (rw [bset_f (f := fun d => decide (h 244 (4 * d) = r)) (decide_eq_false (show ¬ h 244 (4 * (i : Int)) = r by omega))] at q; rw [bor_0 (bset_32 (by omega))]; exact q)
    ·
      refine z_iconst dX10_calls_33 ⟨by decide, by decide⟩ ?_
      refine z_iload_n dX10_calls_34 rfl ?_
      refine z_ishl dX10_calls_35 ?_
      refine z_goto (tgt := 40) dX10_calls_36 (by decide) ?_
      refine z_ior dX10_calls_40 ?_
      refine z_istore_n dX10_calls_41 (by decide) rfl lss_4_2 ?_
      refine y_iinc dX10_calls_42 (by decide) rfl rfl (by omega) (by omega) lss_4_3 ?_
      refine z_goto (tgt := 14) dX10_calls_45 (by decide) ?_
      have q := ih (i + 1) (by omega)
      first
        | (rw [bset_t (f := fun d => decide (h 244 (4 * d) = r)) (decide_eq_true (show h 244 (4 * (i : Int)) = r by omega))] at q; exact q)
        | (rw [bset_f (f := fun d => decide (h 244 (4 * d) = r)) (decide_eq_false (show ¬ h 244 (4 * (i : Int)) = r by omega))] at q; rw [bor_0 (bset_32 (by omega))]; exact q)
theorem lpX10_calls2 {l : Launch} {g h : zH} {Q : zQt} {r L t : Int} {D : Nat} (hg : zGd g) (hD : h 240 3 = D) (hD6 : D ≤ 6) (hL : h 244 28 = L) (K : zW zX0 l mX10_calls ((SHL, g).1.length + zmc mX10_calls) (ztot (SHL, g) + zms mX10_calls) Q 139 [some (zr 240), some (zi r), some (zi t), some (zi ((D : Nat) : Int))] [] (SHL, g) (stz h L (D))) : ∀ (n i : Nat), i + n = D → zW zX0 l mX10_calls ((SHL, g).1.length + zmc mX10_calls) (ztot (SHL, g) + zms mX10_calls) Q 91 [some (zr 240), some (zi r), some (zi t), some (zi (i : Int))] [] (SHL, g) (stz h L i) := by
  intro n
  induction n with
  | zero =>
    intro i hi 
    have e9 : i = D := by omega
    subst e9
    refine z_iload_n dX10_calls_91 rfl ?_
    refine z_aload_n dX10_calls_92 rfl (by omega) ?_
    refine y_geti (k' := 3) fl_X10_66 rfl dX10_calls_93 sh_240 (by decide) ((stz_ne (Or.inl (by decide)) _).trans hD) ?_
    refine z_icmp_ge (tgt := 139) dX10_calls_96 (by decide) (fun _ => ?_) (fun q => False.elim (by omega))
    exact K
  | succ n ih =>
    intro i hi 
    refine z_iload_n dX10_calls_91 rfl ?_
    refine z_aload_n dX10_calls_92 rfl (by omega) ?_
    refine y_geti (k' := 3) fl_X10_66 rfl dX10_calls_93 sh_240 (by decide) ((stz_ne (Or.inl (by decide)) _).trans hD) ?_
    refine z_icmp_ge (tgt := 139) dX10_calls_96 (by decide) (fun q => False.elim (by omega)) (fun _ => ?_)
    refine z_aload_n dX10_calls_99 rfl (by omega) ?_
    refine y_geta (k' := 7) fl_X10_23 rfl dX10_calls_100 sh_240 (by decide) (gf_240_7 hg) ?_
    refine z_iconst dX10_calls_103 ⟨by decide, by decide⟩ ?_
    refine z_iload_n dX10_calls_104 rfl ?_
    refine y_imul dX10_calls_105 (by omega) (by omega) ?_
    refine z_iconst dX10_calls_106 ⟨by decide, by decide⟩ ?_
    refine y_iadd dX10_calls_107 (by omega) (by omega) ?_
    refine z_aload_n dX10_calls_108 rfl (by omega) ?_
    refine y_geta (k' := 7) fl_X10_23 rfl dX10_calls_109 sh_240 (by decide) (gf_240_7 hg) ?_
    refine z_bipush dX10_calls_112 ⟨by decide, by decide⟩ ?_
    refine z_iaload dX10_calls_114 sh_244 (by omega) (by omega) ((stz_ne (Or.inr (fun d => by omega)) _).trans hL) ?_
    refine z_iload_n dX10_calls_115 rfl ?_
    refine z_callS (T := mX10_has) (As := [_, _]) kX10_has ml_X10_171 ⟨by decide, by decide⟩ dX10_calls_116 rfl rfl (Nat.le_of_ble_eq_true rfl) (Nat.le_refl _) (Nat.le_refl _) (qX10_has (fun b116 => ?_) (fun b116 => ?_))
    ·
      refine z_if_eq (tgt := 126) dX10_calls_119 (by decide) (fun q => False.elim (by omega)) (fun _ => ?_)
      refine z_iconst dX10_calls_122 ⟨by decide, by decide⟩ ?_
      refine z_goto (tgt := 132) dX10_calls_123 (by decide) ?_
      refine z_iastore dX10_calls_132 sh_244 (by omega) (by omega) ?_
      refine y_iinc dX10_calls_133 (by decide) rfl rfl (by omega) (by omega) lss_4_3 ?_
      refine z_goto (tgt := 91) dX10_calls_136 (by decide) ?_
      have q := ih (i + 1) (by omega)
      first
        | (rw [show stz h L (i + 1) = zup (stz h L i) 244 (4 * (i : Int) + 1) 0 by show zup _ _ _ (if _ then _ else _) = _; rw [if_pos b116]] at q; exact q)
        | (rw [show stz h L (i + 1) = zup (stz h L i) 244 (4 * (i : Int) + 1) (stz h L i 244 (4 * (i : Int) + 1)) by show zup _ _ _ (if _ then _ else _) = _; rw [if_neg b116]] at q; exact q)
    ·
      refine z_if_eq (tgt := 126) dX10_calls_119 (by decide) (fun _ => ?_) (fun q => False.elim (by omega))
      refine z_aload_n dX10_calls_126 rfl (by omega) ?_
      refine z_iload_n dX10_calls_127 rfl ?_
      refine z_iconst dX10_calls_128 ⟨by decide, by decide⟩ ?_
      refine z_callV (T := mX10_of) (As := [_, _]) kX10_of ml_X10_76 ⟨by decide, by decide⟩ dX10_calls_129 rfl rfl (Nat.le_of_ble_eq_true rfl) sh_240 ⟨by decide, rfl⟩ (Nat.le_refl _) (Nat.le_refl _) (qX10_of hg (by omega) (by omega) (by omega) (by omega) rfl ?_)
      refine z_iastore dX10_calls_132 sh_244 (by omega) (by omega) ?_
      refine y_iinc dX10_calls_133 (by decide) rfl rfl (by omega) (by omega) lss_4_3 ?_
      refine z_goto (tgt := 91) dX10_calls_136 (by decide) ?_
      have q := ih (i + 1) (by omega)
      first
        | (rw [show stz h L (i + 1) = zup (stz h L i) 244 (4 * (i : Int) + 1) 0 by show zup _ _ _ (if _ then _ else _) = _; rw [if_pos b116]] at q; exact q)
        | (rw [show stz h L (i + 1) = zup (stz h L i) 244 (4 * (i : Int) + 1) (stz h L i 244 (4 * (i : Int) + 1)) by show zup _ _ _ (if _ then _ else _) = _; rw [if_neg b116]] at q; exact q)
theorem qX10_calls {l : Launch} {g h : zH} {Q : zQt} (hg : zGd g) (hm : MB h) {r : Int} (hQ : Q (some (zi (callsR h r).1)) (SHL, g) (callsR h r).2) : zC l mX10_calls [zr 240, zi r] (SHL, g) h Q := by
  refine z_method kX10_calls.1 rfl (Nat.le_of_ble_eq_true rfl) (fun hok hh => ?_)
  obtain ⟨m0, m1, m2, m3, m4, m5, m6, m7⟩ := hm.1
  refine z_aload_n dX10_calls_0 rfl (by omega) ?_
  refine z_iload_n dX10_calls_1 rfl ?_
  refine z_callV (T := mX10_isRoom) (As := [_]) kX10_isRoom ml_X10_202 ⟨by decide, by decide⟩ dX10_calls_2 rfl rfl (Nat.le_of_ble_eq_true rfl) sh_240 ⟨by decide, rfl⟩ (Nat.le_refl _) (Nat.le_refl _) (qX10_isRoom hg hm (fun b2 => ?_) (fun b2 => ?_))
  ·
    refine z_if_ne (tgt := 10) dX10_calls_5 (by decide) (fun _ => ?_) (fun q => False.elim (by omega))
    refine z_iconst dX10_calls_10 ⟨by decide, by decide⟩ ?_
    refine z_istore_n dX10_calls_11 (by decide) rfl lss_4_2 ?_
    refine z_iconst dX10_calls_12 ⟨by decide, by decide⟩ ?_
    refine z_istore_n dX10_calls_13 (by decide) rfl lss_4_3 ?_
    refine lpX10_calls1 (r := r) hg hm ?_ _ 0 (Nat.zero_add _)
    refine z_iload_n dX10_calls_48 rfl ?_
    refine z_aload_n dX10_calls_49 rfl (by omega) ?_
    refine y_geta (k' := 7) fl_X10_23 rfl dX10_calls_50 sh_240 (by decide) (gf_240_7 hg) ?_
    refine z_bipush dX10_calls_53 ⟨by decide, by decide⟩ ?_
    refine z_iaload dX10_calls_55 sh_244 (by omega) (by omega) rfl ?_
    refine z_iconst dX10_calls_56 ⟨by decide, by decide⟩ ?_
    refine z_ixor dX10_calls_57 ?_
    refine z_iand dX10_calls_58 ?_
    refine z_if_ne (tgt := 65) dX10_calls_59 (by decide) (fun c59 => ?_) (fun c59 => ?_)
    ·
      refine z_aload_n dX10_calls_65 rfl (by omega) ?_
      refine z_callV (T := mX10_keepPast) (As := []) kX10_keepPast ml_X10_194 ⟨by decide, by decide⟩ dX10_calls_66 rfl rfl (Nat.le_of_ble_eq_true rfl) sh_240 ⟨by decide, rfl⟩ (Nat.le_refl _) (Nat.le_refl _) (qX10_keepPast hg hm ?_)
      refine z_aload_n dX10_calls_69 rfl (by omega) ?_
      refine y_geta (k' := 7) fl_X10_23 rfl dX10_calls_70 sh_240 (by decide) (gf_240_7 hg) ?_
      refine z_bipush dX10_calls_73 ⟨by decide, by decide⟩ ?_
      have m28 := hm.2.2.2.2.1.2.2
      rw [Int.zero_add] at m28
      have p1 := pw_le m2.2
      have t := bset_r (f := fun d => decide (h 244 (4 * d) = r)) (h 240 3).toNat (by omega)
      have hDe : ((h 240 3).toNat : Int) = h 240 3 := Int.toNat_of_nonneg m2.1
      rw [hDe] at t
      have bo := bor_r (h 244 28) (bset (fun d => decide (h 244 (4 * d) = r)) (h 240 3).toNat) (h 240 3) (by omega) (by omega) (by omega) (by omega) (by omega) (by omega)
      have bo2 := bo.2.2 m28.2 t.2
      have eK3 : KP h 240 3 = h 240 3 := KP_ne (by decide) (by omega)
      have eK242 : KP h 242 = h 242 := KP_row (by decide) (by decide)
      have sb : SB (KP h) := SB_eq eK3 eK242 hm.sb
      have esp : sprM (KP h) (bor (h 244 28) (bset (fun d => decide (h 244 (4 * d) = r)) (h 240 3).toNat)) = sprM h (bor (h 244 28) (bset (fun d => decide (h 244 (4 * d) = r)) (h 240 3).toNat)) := sprM_eq eK3 eK242 _
      refine z_aload_n dX10_calls_75 rfl (by omega) ?_
      refine z_aload_n dX10_calls_76 rfl (by omega) ?_
      refine y_geta (k' := 7) fl_X10_23 rfl dX10_calls_77 sh_240 (by decide) (gf_240_7 hg) ?_
      refine z_bipush dX10_calls_80 ⟨by decide, by decide⟩ ?_
      refine z_iaload dX10_calls_82 sh_244 (by omega) (by omega) (KP_ne (by decide) (by omega)) ?_
      refine z_iload_n dX10_calls_83 rfl ?_
      refine z_ior dX10_calls_84 ?_
      refine z_callV (T := mX10_spreadOf) (As := [_]) kX10_spreadOf ml_X10_205 ⟨by decide, by decide⟩ dX10_calls_85 rfl rfl (Nat.le_of_ble_eq_true rfl) sh_240 ⟨by decide, rfl⟩ (Nat.le_refl _) (Nat.le_refl _) (qX10_spreadOf hg sb (by omega) (by rw [eK3]; exact bo2) ?_)
      refine z_iastore dX10_calls_88 sh_244 (by omega) (by omega) ?_
      refine z_iconst dX10_calls_89 ⟨by decide, by decide⟩ ?_
      refine z_istore_n dX10_calls_90 (by decide) rfl lss_4_3 ?_
      rw [esp]
      refine lpX10_calls2 (r := r) (L := sprM h (bor (h 244 28) (thereS h r))) (D := (h 240 3).toNat) hg ?_ (by omega) ?_ ?_ _ 0 (Nat.zero_add _)
      · exact eK3.trans hDe.symm
      · exact zup_same _ _ _ _
      ·
        refine z_aload_n dX10_calls_139 rfl (by omega) ?_
        refine y_geta (k' := 7) fl_X10_23 rfl dX10_calls_140 sh_240 (by decide) (gf_240_7 hg) ?_
        refine z_bipush dX10_calls_143 ⟨by decide, by decide⟩ ?_
        refine z_iaload dX10_calls_145 sh_244 (by omega) (by omega) ((stz_ne (Or.inr (fun d => by omega)) _).trans (zup_same _ _ _ _)) ?_
        refine z_ret (v := some (zi _)) dX10_calls_146 trivial (Nat.add_zero _).symm (Nat.add_zero _).symm rfl ?_
        rw [callsR, if_pos b2, if_neg (show ¬ band (thereS h r) (bxor (h 244 28) (-1)) = 0 from c59)] at hQ
        exact hQ
    ·
      refine z_bipush dX10_calls_62 ⟨by decide, by decide⟩ ?_
      refine z_ret (v := some (zi _)) dX10_calls_64 trivial (Nat.add_zero _).symm (Nat.add_zero _).symm rfl ?_
      first
        | (rw [callsR, if_pos b2, if_pos (show band (thereS h r) (bxor (h 244 28) (-1)) = 0 from c59)] at hQ; exact hQ)
  ·
    refine z_if_ne (tgt := 10) dX10_calls_5 (by decide) (fun q => False.elim (by omega)) (fun _ => ?_)
    refine z_iconst dX10_calls_8 ⟨by decide, by decide⟩ ?_
    refine z_ret (v := some (zi _)) dX10_calls_9 trivial (Nat.add_zero _).symm (Nat.add_zero _).symm rfl ?_
    first
      | (rw [callsR, if_neg b2] at hQ; exact hQ)
