/-! The odds; now; a director. -/
def wprod (x s : Int) : Nat → Int
  | 0 => 1
  | n + 1 => wprod x s n * (if hasb s n then x else 10 - x)
def undN (x : Int) (C : Nat) : Nat → Int
  | 0 => 0
  | s + 1 => undN x C s + wprod x s C
def ovrN (x k : Int) (C : Nat) : Nat → Int
  | 0 => 0
  | s + 1 => ovrN x k C s + (if popc s ≤ k then wprod x s C else 0)
theorem wprod_r {x s : Int} (x0 : 0 ≤ x) (x1 : x ≤ 10) : ∀ n : Nat, n ≤ 4 → 0 ≤ wprod x s n ∧ wprod x s n ≤ 10000 ∧ (n ≤ 3 → wprod x s n ≤ 1000) ∧ (n ≤ 2 → wprod x s n ≤ 100) ∧ (n ≤ 1 → wprod x s n ≤ 10) ∧ (n ≤ 0 → wprod x s n ≤ 1) := by
  intro n
  induction n with
  | zero => intro _; show 0 ≤ (1 : Int) ∧ _; exact ⟨by omega, show (1 : Int) ≤ 10000 by omega, fun _ => show (1 : Int) ≤ 1000 by omega, fun _ => show (1 : Int) ≤ 100 by omega, fun _ => show (1 : Int) ≤ 10 by omega, fun _ => show (1 : Int) ≤ 1 by omega⟩
  | succ n ih =>
    intro hn
    obtain ⟨a0, a1, a2, a3, a4, a5⟩ := ih (by omega)
    have y : 0 ≤ (if hasb s n then x else 10 - x) ∧ (if hasb s n then x else 10 - x) ≤ 10 := by split <;> omega
    have e : wprod x s (n + 1) = wprod x s n * (if hasb s n then x else 10 - x) := rfl
    have key : ∀ B : Int, wprod x s n ≤ B → wprod x s (n + 1) ≤ B * 10 := fun B hB => by rw [e]; exact (mulb a0 hB y.1 y.2).2
    have k0 : 0 ≤ wprod x s (n + 1) := by rw [e]; exact (mulb a0 a1 y.1 y.2).1
    have k1 : wprod x s (n + 1) ≤ 10000 := by have := key 1000 (a2 (by omega)); omega
    have k2 : n + 1 ≤ 3 → wprod x s (n + 1) ≤ 1000 := fun q => by have := key 100 (a3 (by omega)); omega
    have k3 : n + 1 ≤ 2 → wprod x s (n + 1) ≤ 100 := fun q => by have := key 10 (a4 (by omega)); omega
    have k4 : n + 1 ≤ 1 → wprod x s (n + 1) ≤ 10 := fun q => by have := key 1 (a5 (by omega)); omega
    exact ⟨k0, k1, k2, k3, k4, fun q => by omega⟩
theorem und_r {x : Int} {C : Nat} (x0 : 0 ≤ x) (x1 : x ≤ 10) (hC : C ≤ 4) : ∀ n : Nat, 0 ≤ undN x C n ∧ undN x C n ≤ 10000 * n := by
  intro n
  induction n with
  | zero => exact ⟨Int.le_refl 0, Int.le_refl 0⟩
  | succ n ih =>
    have a := wprod_r (s := n) x0 x1 C hC
    show 0 ≤ undN x C n + wprod x n C ∧ undN x C n + wprod x n C ≤ _
    omega
theorem ovr_r {x k : Int} {C : Nat} (x0 : 0 ≤ x) (x1 : x ≤ 10) (hC : C ≤ 4) : ∀ n : Nat, 0 ≤ ovrN x k C n ∧ ovrN x k C n ≤ 10000 * n := by
  intro n
  induction n with
  | zero => exact ⟨Int.le_refl 0, Int.le_refl 0⟩
  | succ n ih =>
    have a := wprod_r (s := n) x0 x1 C hC
    show 0 ≤ ovrN x k C n + (if popc n ≤ k then wprod x n C else 0) ∧ ovrN x k C n + (if popc n ≤ k then wprod x n C else 0) ≤ _
    split <;> omega
def egO : Nat → Int → Int → Option Int
  | 0, _, _ => none
  | n + 1, a, b => if b = 0 then some a else egO n b (zmod a b)
def gcdM (x k C : Int) : Int := (egO 40 (ovrN x k C.toNat (pw C).toNat) (undN x C.toNat (pw C).toNat)).getD 0
theorem gcd_ok : ∀ x k C : Int, 0 ≤ x → x < 11 → 0 ≤ k → k < 5 → 0 ≤ C → C < 5 → (egO 40 (ovrN x k C.toNat (pw C).toNat) (undN x C.toNat (pw C).toNat) = some (gcdM x k C) ∧ ¬ gcdM x k C = 0) := by
  have := fin3 (P := fun x k C => egO 40 (ovrN x k C.toNat (pw C).toNat) (undN x C.toNat (pw C).toNat) = some (gcdM x k C) ∧ ¬ gcdM x k C = 0) (A := 11) (B := 5) (C := 5) (by decide +kernel)
  intro x k C x0 x1 k0 k1 c0 c1
  exact this x k C x0 x1 k0 k1 c0 c1
def oddsF (h : zH) (x k w : Int) : Int := if 0 ≤ x ∧ x ≤ 10 then (if 0 ≤ k ∧ k ≤ 4 then (if 0 ≤ w ∧ w ≤ 1 then zdiv (if w = 0 then ovrN x k (h 240 5).toNat (pw (h 240 5)).toNat else undN x (h 240 5).toNat (pw (h 240 5)).toNat) (gcdM x k (h 240 5)) else -1) else -1) else -1
theorem lpX10_odds1 {l : Launch} {g h : zH} {Q : zQt} {x k v o u s : Int} (hg : zGd g) (m3 : 0 ≤ h 240 5 ∧ h 240 5 ≤ 4) (x0 : 0 ≤ x) (x1 : x ≤ 10) (K : zW zX0 l mX10_odds ((SHL, g).1.length + zmc mX10_odds) (ztot (SHL, g) + zms mX10_odds) Q 100 [some (zr 240), some (zi x), some (zi k), some (zi v), some (zi o), some (zi u), some (zi s), some (zi (wprod x s ((h 240 5).toNat))), some (zi (((h 240 5).toNat : Nat) : Int))] [] (SHL, g) (h)) : ∀ (n i : Nat), i + n = (h 240 5).toNat → zW zX0 l mX10_odds ((SHL, g).1.length + zmc mX10_odds) (ztot (SHL, g) + zms mX10_odds) Q 62 [some (zr 240), some (zi x), some (zi k), some (zi v), some (zi o), some (zi u), some (zi s), some (zi (wprod x s i)), some (zi (i : Int))] [] (SHL, g) (h) := by
  intro n
  induction n with
  | zero =>
    intro i hi 
    have e9 : i = (h 240 5).toNat := by omega
    subst e9
    refine z_iload dX10_odds_62 rfl ?_
    refine z_aload_n dX10_odds_64 rfl (by omega) ?_
    refine y_geti (k' := 5) fl_X10_132 rfl dX10_odds_65 sh_240 (by decide) rfl ?_
    refine z_icmp_ge (tgt := 100) dX10_odds_68 (by decide) (fun _ => ?_) (fun q => False.elim (by omega))
    exact K
  | succ n ih =>
    intro i hi 
    have f1 := wprod_r (s := s) x0 x1 i (by omega)
    have f2 := mulb f1.1 f1.2.1 x0 x1
    have f3 := mulb f1.1 f1.2.1 (show 0 ≤ 10 - x by omega) (show 10 - x ≤ 10 by omega)
    refine z_iload dX10_odds_62 rfl ?_
    refine z_aload_n dX10_odds_64 rfl (by omega) ?_
    refine y_geti (k' := 5) fl_X10_132 rfl dX10_odds_65 sh_240 (by decide) rfl ?_
    refine z_icmp_ge (tgt := 100) dX10_odds_68 (by decide) (fun q => False.elim (by omega)) (fun _ => ?_)
    refine z_iload dX10_odds_71 rfl ?_
    refine z_iload dX10_odds_73 rfl ?_
    refine z_iload dX10_odds_75 rfl ?_
    refine z_callS (T := mX10_has) (As := [_, _]) kX10_has ml_X10_171 ⟨by decide, by decide⟩ dX10_odds_77 rfl rfl (Nat.le_of_ble_eq_true rfl) (Nat.le_refl _) (Nat.le_refl _) (qX10_has (fun b77 => ?_) (fun b77 => ?_))
    ·
      refine z_if_eq (tgt := 87) dX10_odds_80 (by decide) (fun q => False.elim (by omega)) (fun _ => ?_)
      refine z_iload_n dX10_odds_83 rfl ?_
      refine z_goto (tgt := 91) dX10_odds_84 (by decide) ?_
      refine y_imul dX10_odds_91 (by omega) (by omega) ?_
      refine z_istore dX10_odds_92 (by decide) rfl lss_9_7 ?_
      refine y_iinc dX10_odds_94 (by decide) rfl rfl (by omega) (by omega) lss_9_8 ?_
      refine z_goto (tgt := 62) dX10_odds_97 (by decide) ?_
      have q := ih (i + 1) (by omega)
      first
        | (rw [show wprod x s (i + 1) = wprod x s i * x by show _ * (if _ then _ else _) = _; rw [if_pos b77]] at q; exact q)
        | (rw [show wprod x s (i + 1) = wprod x s i * (10 - x) by show _ * (if _ then _ else _) = _; rw [if_neg b77]] at q; exact q)
    ·
      refine z_if_eq (tgt := 87) dX10_odds_80 (by decide) (fun _ => ?_) (fun q => False.elim (by omega))
      refine z_bipush dX10_odds_87 ⟨by decide, by decide⟩ ?_
      refine z_iload_n dX10_odds_89 rfl ?_
      refine y_isub dX10_odds_90 (by omega) (by omega) ?_
      refine y_imul dX10_odds_91 (by omega) (by omega) ?_
      refine z_istore dX10_odds_92 (by decide) rfl lss_9_7 ?_
      refine y_iinc dX10_odds_94 (by decide) rfl rfl (by omega) (by omega) lss_9_8 ?_
      refine z_goto (tgt := 62) dX10_odds_97 (by decide) ?_
      have q := ih (i + 1) (by omega)
      first
        | (rw [show wprod x s (i + 1) = wprod x s i * x by show _ * (if _ then _ else _) = _; rw [if_pos b77]] at q; exact q)
        | (rw [show wprod x s (i + 1) = wprod x s i * (10 - x) by show _ * (if _ then _ else _) = _; rw [if_neg b77]] at q; exact q)
theorem lpX10_odds2 {l : Launch} {g h : zH} {Q : zQt} {x k v : Int} (hg : zGd g) (m3 : 0 ≤ h 240 5 ∧ h 240 5 ≤ 4) (x0 : 0 ≤ x) (x1 : x ≤ 10) (K : ∀ (x7 x8 : Option zV), zW zX0 l mX10_odds ((SHL, g).1.length + zmc mX10_odds) (ztot (SHL, g) + zms mX10_odds) Q 133 [some (zr 240), some (zi x), some (zi k), some (zi v), some (zi (ovrN x k (h 240 5).toNat ((pw (h 240 5)).toNat))), some (zi (undN x (h 240 5).toNat ((pw (h 240 5)).toNat))), some (zi (((pw (h 240 5)).toNat : Nat) : Int)), x7, x8] [] (SHL, g) (h)) : ∀ (n i : Nat), i + n = (pw (h 240 5)).toNat → ∀ (x7 x8 : Option zV), zW zX0 l mX10_odds ((SHL, g).1.length + zmc mX10_odds) (ztot (SHL, g) + zms mX10_odds) Q 45 [some (zr 240), some (zi x), some (zi k), some (zi v), some (zi (ovrN x k (h 240 5).toNat i)), some (zi (undN x (h 240 5).toNat i)), some (zi (i : Int)), x7, x8] [] (SHL, g) (h) := by
  have e1 := bshl_pw (h 240 5) (by omega) (by omega)
  have p0 := pw_mono (show h 240 5 ≤ 4 by omega)
  have p1 : pw (h 240 5) ≤ 16 := p0
  have p2 := pw_pos (h 240 5)
  intro n
  induction n with
  | zero =>
    intro i hi x7 x8
    have e9 : i = (pw (h 240 5)).toNat := by omega
    subst e9
    refine z_iload dX10_odds_45 rfl ?_
    refine z_iconst dX10_odds_47 ⟨by decide, by decide⟩ ?_
    refine z_aload_n dX10_odds_48 rfl (by omega) ?_
    refine y_geti (k' := 5) fl_X10_132 rfl dX10_odds_49 sh_240 (by decide) rfl ?_
    refine z_ishl dX10_odds_52 ?_
    refine z_icmp_ge (tgt := 133) dX10_odds_53 (by decide) (fun _ => ?_) (fun q => False.elim (by omega))
    exact K _ _
  | succ n ih =>
    intro i hi x7 x8
    refine z_iload dX10_odds_45 rfl ?_
    refine z_iconst dX10_odds_47 ⟨by decide, by decide⟩ ?_
    refine z_aload_n dX10_odds_48 rfl (by omega) ?_
    refine y_geti (k' := 5) fl_X10_132 rfl dX10_odds_49 sh_240 (by decide) rfl ?_
    refine z_ishl dX10_odds_52 ?_
    refine z_icmp_ge (tgt := 133) dX10_odds_53 (by decide) (fun q => False.elim (by omega)) (fun _ => ?_)
    refine z_iconst dX10_odds_56 ⟨by decide, by decide⟩ ?_
    refine z_istore dX10_odds_57 (by decide) rfl lss_9_7 ?_
    refine z_iconst dX10_odds_59 ⟨by decide, by decide⟩ ?_
    refine z_istore dX10_odds_60 (by decide) rfl lss_9_8 ?_
    refine lpX10_odds1 (x := x) (k := k) (v := v) (s := i) hg m3 x0 x1 ?_ _ 0 (Nat.zero_add _)
    have f1 := wprod_r (s := (i : Int)) x0 x1 (h 240 5).toNat (by omega)
    have f2 := und_r (C := (h 240 5).toNat) x0 x1 (by omega) i
    have f3 := ovr_r (k := k) (C := (h 240 5).toNat) x0 x1 (by omega) i
    refine z_iload dX10_odds_100 rfl ?_
    refine z_iload dX10_odds_102 rfl ?_
    refine y_iadd dX10_odds_104 (by omega) (by omega) ?_
    refine z_istore dX10_odds_105 (by decide) rfl lss_9_5 ?_
    refine z_iload dX10_odds_107 rfl ?_
    refine z_iload dX10_odds_109 rfl ?_
    refine z_callS (T := mX10_bits) (As := [_]) kX10_bits ml_X10_199 ⟨by decide, by decide⟩ dX10_odds_111 rfl rfl (Nat.le_of_ble_eq_true rfl) (Nat.le_refl _) (Nat.le_refl _) (qX10_bits (by omega) (by omega) ?_)
    refine z_iload_n dX10_odds_114 rfl ?_
    refine z_icmp_gt (tgt := 123) dX10_odds_115 (by decide) (fun c115 => ?_) (fun c115 => ?_)
    ·
      refine z_iconst dX10_odds_123 ⟨by decide, by decide⟩ ?_
      refine y_iadd dX10_odds_124 (by omega) (by omega) ?_
      refine z_istore dX10_odds_125 (by decide) rfl lss_9_4 ?_
      refine y_iinc dX10_odds_127 (by decide) rfl rfl (by omega) (by omega) lss_9_6 ?_
      refine z_goto (tgt := 45) dX10_odds_130 (by decide) ?_
      have q := ih (i + 1) (by omega)
      first
        | (rw [show ovrN x k (h 240 5).toNat (i + 1) = ovrN x k (h 240 5).toNat i + wprod x i (h 240 5).toNat by show _ + (if _ then _ else _) = _; rw [if_pos (by omega)]] at q; exact q _ _)
        | (rw [show ovrN x k (h 240 5).toNat (i + 1) = ovrN x k (h 240 5).toNat i + 0 by show _ + (if _ then _ else _) = _; rw [if_neg (by omega)]] at q; exact q _ _)
    ·
      refine z_iload dX10_odds_118 rfl ?_
      refine z_goto (tgt := 124) dX10_odds_120 (by decide) ?_
      refine y_iadd dX10_odds_124 (by omega) (by omega) ?_
      refine z_istore dX10_odds_125 (by decide) rfl lss_9_4 ?_
      refine y_iinc dX10_odds_127 (by decide) rfl rfl (by omega) (by omega) lss_9_6 ?_
      refine z_goto (tgt := 45) dX10_odds_130 (by decide) ?_
      have q := ih (i + 1) (by omega)
      first
        | (rw [show ovrN x k (h 240 5).toNat (i + 1) = ovrN x k (h 240 5).toNat i + wprod x i (h 240 5).toNat by show _ + (if _ then _ else _) = _; rw [if_pos (by omega)]] at q; exact q _ _)
        | (rw [show ovrN x k (h 240 5).toNat (i + 1) = ovrN x k (h 240 5).toNat i + 0 by show _ + (if _ then _ else _) = _; rw [if_neg (by omega)]] at q; exact q _ _)
theorem lwX10_odds {l : Launch} {g h : zH} {Q : zQt} {x k v o u e : Int} (K : ∀ x8, zW zX0 l mX10_odds ((SHL, g).1.length + zmc mX10_odds) (ztot (SHL, g) + zms mX10_odds) Q 164 [some (zr 240), some (zi x), some (zi k), some (zi v), some (zi o), some (zi u), some (zi e), some (zi 0), x8] [] (SHL, g) h) :
    ∀ (n : Nat) (a b : Int) (x8 : Option zV), egO n a b = some e → zW zX0 l mX10_odds ((SHL, g).1.length + zmc mX10_odds) (ztot (SHL, g) + zms mX10_odds) Q 141 [some (zr 240), some (zi x), some (zi k), some (zi v), some (zi o), some (zi u), some (zi a), some (zi b), x8] [] (SHL, g) h := by
  intro n
  induction n with
  | zero => intro a b x8 he; cases he
  | succ n ih =>
    intro a b x8 he
    refine z_iload dX10_odds_141 rfl ?_
    refine z_if_eq (tgt := 164) dX10_odds_143 (by decide) (fun c143 => ?_) (fun c143 => ?_)
    ·
      have e9 : egO (n + 1) a b = some a := if_pos c143
      rw [e9] at he
      cases he
      subst c143
      exact K _
    ·
      have e9 : egO (n + 1) a b = egO n b (zmod a b) := if_neg c143
      rw [e9] at he
      refine z_iload dX10_odds_146 rfl ?_
      refine z_iload dX10_odds_148 rfl ?_
      refine z_irem dX10_odds_150 (by omega) ?_
      refine z_istore dX10_odds_151 (by decide) rfl lss_9_8 ?_
      refine z_iload dX10_odds_153 rfl ?_
      refine z_istore dX10_odds_155 (by decide) rfl lss_9_6 ?_
      refine z_iload dX10_odds_157 rfl ?_
      refine z_istore dX10_odds_159 (by decide) rfl lss_9_7 ?_
      refine z_goto (tgt := 141) dX10_odds_161 (by decide) ?_
      exact ih _ _ _ he
theorem qX10_odds {l : Launch} {g h : zH} {Q : zQt} (hg : zGd g) (hm : MB h) {x k v : Int} (hQ : Q (some (zi (oddsF h x k v))) (SHL, g) h) : zC l mX10_odds [zr 240, zi x, zi k, zi v] (SHL, g) h Q := by
  refine z_method kX10_odds.1 rfl (Nat.le_of_ble_eq_true rfl) (fun hok hh => ?_)
  obtain ⟨m0, m1, m2, m3, m4, m5, m6, m7⟩ := hm.1
  refine z_iload_n dX10_odds_0 rfl ?_
  refine z_i2l dX10_odds_1 ?_
  refine z_lconst0 dX10_odds_2 ?_
  refine z_ldc2 dX10_odds_3 kc_X10_233 ⟨by decide, by decide⟩ ?_
  refine z_callS (T := mX10_in) (As := [_, _, _]) kX10_in ml_X10_69 ⟨by decide, by decide⟩ dX10_odds_6 rfl rfl (Nat.le_of_ble_eq_true rfl) (Nat.le_refl _) (Nat.le_refl _) (qX10_in (fun b6 => ?_) (fun b6 => ?_))
  ·
    refine z_if_eq (tgt := 34) dX10_odds_9 (by decide) (fun q => False.elim (by omega)) (fun _ => ?_)
    refine z_iload_n dX10_odds_12 rfl ?_
    refine z_i2l dX10_odds_13 ?_
    refine z_lconst0 dX10_odds_14 ?_
    refine z_ldc2 dX10_odds_15 kc_X10_235 ⟨by decide, by decide⟩ ?_
    refine z_callS (T := mX10_in) (As := [_, _, _]) kX10_in ml_X10_69 ⟨by decide, by decide⟩ dX10_odds_18 rfl rfl (Nat.le_of_ble_eq_true rfl) (Nat.le_refl _) (Nat.le_refl _) (qX10_in (fun b18 => ?_) (fun b18 => ?_))
    ·
      refine z_if_eq (tgt := 34) dX10_odds_21 (by decide) (fun q => False.elim (by omega)) (fun _ => ?_)
      refine z_iload_n dX10_odds_24 rfl ?_
      refine z_i2l dX10_odds_25 ?_
      refine z_lconst0 dX10_odds_26 ?_
      refine z_lconst1 dX10_odds_27 ?_
      refine z_callS (T := mX10_in) (As := [_, _, _]) kX10_in ml_X10_69 ⟨by decide, by decide⟩ dX10_odds_28 rfl rfl (Nat.le_of_ble_eq_true rfl) (Nat.le_refl _) (Nat.le_refl _) (qX10_in (fun b28 => ?_) (fun b28 => ?_))
      ·
        refine z_if_ne (tgt := 36) dX10_odds_31 (by decide) (fun _ => ?_) (fun q => False.elim (by omega))
        refine z_iconst dX10_odds_36 ⟨by decide, by decide⟩ ?_
        refine z_istore dX10_odds_37 (by decide) rfl lss_9_4 ?_
        refine z_iconst dX10_odds_39 ⟨by decide, by decide⟩ ?_
        refine z_istore dX10_odds_40 (by decide) rfl lss_9_5 ?_
        refine z_iconst dX10_odds_42 ⟨by decide, by decide⟩ ?_
        refine z_istore dX10_odds_43 (by decide) rfl lss_9_6 ?_
        rw [oddsF, if_pos b6, if_pos b18, if_pos b28] at hQ
        have gk := gcd_ok x k (h 240 5) (by omega) (by omega) (by omega) (by omega) (by omega) (by omega)
        refine lpX10_odds2 (x := x) (k := k) (v := v) hg m3 b6.1 b6.2 (fun x7 x8 => ?_) _ 0 (Nat.zero_add _) _ _
        refine z_iload dX10_odds_133 rfl ?_
        refine z_istore dX10_odds_135 (by decide) rfl lss_9_6 ?_
        refine z_iload dX10_odds_137 rfl ?_
        refine z_istore dX10_odds_139 (by decide) rfl lss_9_7 ?_
        refine lwX10_odds (fun x8 => ?_) 40 _ _ _ gk.1
        refine z_iload_n dX10_odds_164 rfl ?_
        refine z_if_ne (tgt := 173) dX10_odds_165 (by decide) (fun c165 => ?_) (fun c165 => ?_)
        ·
          refine z_iload dX10_odds_173 rfl ?_
          refine z_iload dX10_odds_175 rfl ?_
          refine z_idiv dX10_odds_177 gk.2 ?_
          refine z_ret (v := some (zi _)) dX10_odds_178 trivial (Nat.add_zero _).symm (Nat.add_zero _).symm rfl ?_
          first
            | (rw [if_pos (by omega)] at hQ; exact hQ)
            | (rw [if_neg (by omega)] at hQ; exact hQ)
        ·
          refine z_iload dX10_odds_168 rfl ?_
          refine z_goto (tgt := 175) dX10_odds_170 (by decide) ?_
          refine z_iload dX10_odds_175 rfl ?_
          refine z_idiv dX10_odds_177 gk.2 ?_
          refine z_ret (v := some (zi _)) dX10_odds_178 trivial (Nat.add_zero _).symm (Nat.add_zero _).symm rfl ?_
          first
            | (rw [if_pos (by omega)] at hQ; exact hQ)
            | (rw [if_neg (by omega)] at hQ; exact hQ)
      ·
        refine z_if_ne (tgt := 36) dX10_odds_31 (by decide) (fun q => False.elim (by omega)) (fun _ => ?_)
        refine z_iconst dX10_odds_34 ⟨by decide, by decide⟩ ?_
        refine z_ret (v := some (zi _)) dX10_odds_35 trivial (Nat.add_zero _).symm (Nat.add_zero _).symm rfl ?_
        first
          | (rw [oddsF, if_neg b6] at hQ; exact hQ)
          | (rw [oddsF, if_pos b6, if_neg b18] at hQ; exact hQ)
          | (rw [oddsF, if_pos b6, if_pos b18, if_neg b28] at hQ; exact hQ)
    ·
      refine z_if_eq (tgt := 34) dX10_odds_21 (by decide) (fun _ => ?_) (fun q => False.elim (by omega))
      refine z_iconst dX10_odds_34 ⟨by decide, by decide⟩ ?_
      refine z_ret (v := some (zi _)) dX10_odds_35 trivial (Nat.add_zero _).symm (Nat.add_zero _).symm rfl ?_
      first
        | (rw [oddsF, if_neg b6] at hQ; exact hQ)
        | (rw [oddsF, if_pos b6, if_neg b18] at hQ; exact hQ)
        | (rw [oddsF, if_pos b6, if_pos b18, if_neg b28] at hQ; exact hQ)
  ·
    refine z_if_eq (tgt := 34) dX10_odds_9 (by decide) (fun _ => ?_) (fun q => False.elim (by omega))
    refine z_iconst dX10_odds_34 ⟨by decide, by decide⟩ ?_
    refine z_ret (v := some (zi _)) dX10_odds_35 trivial (Nat.add_zero _).symm (Nat.add_zero _).symm rfl ?_
    first
      | (rw [oddsF, if_neg b6] at hQ; exact hQ)
      | (rw [oddsF, if_pos b6, if_neg b18] at hQ; exact hQ)
      | (rw [oddsF, if_pos b6, if_pos b18, if_neg b28] at hQ; exact hQ)
/-- what the questions of the reference write over -/
def mscr (a b : Int) : Prop := a = 255 ∨ a = 256 ∨ (a = 240 ∧ (b = 31 ∨ b = 32))
def SE (h h' : zH) : Prop := ∀ a b, ¬ mscr a b → h' a b = h a b
theorem SE_rf (h : zH) : SE h h := fun _ _ _ => rfl
theorem SE_hf (h : zH) (f : Int → Int) : SE h (hf h f) := fun a b q => hf_ne (fun z => q (Or.inl z))
theorem SE_hmt (h : zH) (f : Int → Int) (x y : Int) : SE h (hmt h f x y) := fun a b q => by
  unfold hmt
  rw [zup_ne (fun z => q (Or.inr (Or.inr ⟨z.1, Or.inr z.2⟩))), zup_ne (fun z => q (Or.inr (Or.inr ⟨z.1, Or.inl z.2⟩)))]
  exact hf_ne (fun z => q (Or.inl z))
theorem SE_har (h : zH) (f : Int → Int) (n : Nat) : SE h (har h 256 n f) := fun a b q => har_ne (fun z => q (Or.inr (Or.inl z)))
noncomputable def nowF (h : zH) (w : Int) : Int := if w = 0 then h 244 28 else if w = 1 then (meetF h).1 else if w = 2 then (meetF h).2 else if w = 3 then fewB h (pw (h 240 3)).toNat else if w = 4 then sumN (fun d => h 244 (4 * d + 1)) (h 240 3).toNat else -1
theorem qX10_now {l : Launch} {g h : zH} {Q : zQt} (hg : zGd g) (hm : MB h) {x : Int} (hQ : ∀ h', SE h h' → Q (some (zi (nowF h x))) (SHL, g) h') : zC l mX10_now [zr 240, zi x] (SHL, g) h Q := by
  refine z_method kX10_now.1 rfl (Nat.le_of_ble_eq_true rfl) (fun hok hh => ?_)
  obtain ⟨m0, m1, m2, m3, m4, m5, m6, m7⟩ := hm.1
  refine z_iload_n dX10_now_0 rfl ?_
  refine y_ts (td := 72) [36, 44, 53, 62, 67] dX10_now_1 (by decide) (by decide) (by decide) (fun c1 => ?_) (fun j1 hj1 c1 => ?_)
  ·
    refine z_iconst dX10_now_72 ⟨by decide, by decide⟩ ?_
    refine z_ret (v := some (zi _)) dX10_now_73 trivial (Nat.add_zero _).symm (Nat.add_zero _).symm rfl ?_
    have hQ := hQ _ (SE_rf h)
    rw [nowF, if_neg (by omega), if_neg (by omega), if_neg (by omega), if_neg (by omega), if_neg (by omega)] at hQ
    exact hQ
  ·
    rcases (show j1 = 0 ∨ j1 = 1 ∨ j1 = 2 ∨ j1 = 3 ∨ j1 = 4 by have h9 : j1 < 5 := hj1; omega) with rfl | rfl | rfl | rfl | rfl
    ·
      refine z_aload_n dX10_now_36 rfl (by omega) ?_
      refine y_geta (k' := 7) fl_X10_23 rfl dX10_now_37 sh_240 (by decide) (gf_240_7 hg) ?_
      refine z_bipush dX10_now_40 ⟨by decide, by decide⟩ ?_
      refine z_iaload dX10_now_42 sh_244 (by omega) (by omega) rfl ?_
      refine z_ret (v := some (zi _)) dX10_now_43 trivial (Nat.add_zero _).symm (Nat.add_zero _).symm rfl ?_
      have hQ := hQ _ (SE_rf h)
      rw [nowF, if_pos (by omega)] at hQ
      exact hQ
    ·
      refine z_aload_n dX10_now_44 rfl (by omega) ?_
      refine z_callV (T := mX10_meet) (As := []) kX10_meet ml_X10_214 ⟨by decide, by decide⟩ dX10_now_45 rfl rfl (Nat.le_of_ble_eq_true rfl) sh_240 ⟨by decide, rfl⟩ (Nat.le_refl _) (Nat.le_refl _) (qX10_meet hg hm (fun f => ?_))
      have hQ := hQ _ (SE_hmt h f (meetF h).1 (meetF h).2)
      refine z_aload_n dX10_now_48 rfl (by omega) ?_
      refine y_geti (k' := 31) fl_X10_208 rfl dX10_now_49 sh_240 (by decide) (show hmt h f (meetF h).1 (meetF h).2 240 31 = (meetF h).1 from rfl) ?_
      refine z_ret (v := some (zi _)) dX10_now_52 trivial (Nat.add_zero _).symm (Nat.add_zero _).symm rfl ?_
      rw [nowF, if_neg (by omega), if_pos (by omega)] at hQ
      exact hQ
    ·
      refine z_aload_n dX10_now_53 rfl (by omega) ?_
      refine z_callV (T := mX10_meet) (As := []) kX10_meet ml_X10_214 ⟨by decide, by decide⟩ dX10_now_54 rfl rfl (Nat.le_of_ble_eq_true rfl) sh_240 ⟨by decide, rfl⟩ (Nat.le_refl _) (Nat.le_refl _) (qX10_meet hg hm (fun f => ?_))
      have hQ := hQ _ (SE_hmt h f (meetF h).1 (meetF h).2)
      refine z_aload_n dX10_now_57 rfl (by omega) ?_
      refine y_geti (k' := 32) fl_X10_211 rfl dX10_now_58 sh_240 (by decide) (show hmt h f (meetF h).1 (meetF h).2 240 32 = (meetF h).2 from rfl) ?_
      refine z_ret (v := some (zi _)) dX10_now_61 trivial (Nat.add_zero _).symm (Nat.add_zero _).symm rfl ?_
      rw [nowF, if_neg (by omega), if_neg (by omega), if_pos (by omega)] at hQ
      exact hQ
    ·
      refine z_aload_n dX10_now_62 rfl (by omega) ?_
      refine z_callV (T := mX10_fewestToAll) (As := []) kX10_fewestToAll ml_X10_217 ⟨by decide, by decide⟩ dX10_now_63 rfl rfl (Nat.le_of_ble_eq_true rfl) sh_240 ⟨by decide, rfl⟩ (Nat.le_refl _) (Nat.le_refl _) (qX10_fewestToAll hg hm ?_)
      refine z_ret (v := some (zi _)) dX10_now_66 trivial (Nat.add_zero _).symm (Nat.add_zero _).symm rfl ?_
      have hQ := hQ _ (SE_rf h)
      rw [nowF, if_neg (by omega), if_neg (by omega), if_neg (by omega), if_pos (by omega)] at hQ
      exact hQ
    ·
      refine z_aload_n dX10_now_67 rfl (by omega) ?_
      refine z_callV (T := mX10_stones) (As := []) kX10_stones ml_X10_221 ⟨by decide, by decide⟩ dX10_now_68 rfl rfl (Nat.le_of_ble_eq_true rfl) sh_240 ⟨by decide, rfl⟩ (Nat.le_refl _) (Nat.le_refl _) (qX10_stones hg m2 (fun d d0 d1 => (nb0 hm.2.2.2.2.1 d0 d1).2.1) ?_)
      refine z_ret (v := some (zi _)) dX10_now_71 trivial (Nat.add_zero _).symm (Nat.add_zero _).symm rfl ?_
      have hQ := hQ _ (SE_rf h)
      rw [nowF, if_neg (by omega), if_neg (by omega), if_neg (by omega), if_neg (by omega), if_pos (by omega)] at hQ
      exact hQ
noncomputable def dirF (h : zH) (d w : Int) : Int := if 0 ≤ d ∧ d < h 240 3 then (if w = 0 then h 242 (3 * d) else if w = 1 then h 244 (4 * d + 1) else if w = 2 then h 242 (3 * d + 1) else if w = 3 then h 244 (4 * d) else if w = 4 then h 244 (4 * d + 2) else if w = 5 then h 244 (4 * d + 3) else if w = 6 then h 242 (3 * d + 2) else if w = 7 then reachF h d else if w = 8 then (if 2 * h 244 (4 * d + 1) ≤ h 242 (3 * d) then 1 else 0) else -1) else -1
theorem qX10_director {l : Launch} {g h : zH} {Q : zQt} (hg : zGd g) (hm : MB h) {d x : Int} (hQ : ∀ h', SE h h' → Q (some (zi (dirF h d x))) (SHL, g) h') : zC l mX10_director [zr 240, zi d, zi x] (SHL, g) h Q := by
  refine z_method kX10_director.1 rfl (Nat.le_of_ble_eq_true rfl) (fun hok hh => ?_)
  obtain ⟨m0, m1, m2, m3, m4, m5, m6, m7⟩ := hm.1
  refine z_aload_n dX10_director_0 rfl (by omega) ?_
  refine z_iload_n dX10_director_1 rfl ?_
  refine z_callV (T := mX10_isDirector) (As := [_]) kX10_isDirector ml_X10_179 ⟨by decide, by decide⟩ dX10_director_2 rfl rfl (Nat.le_of_ble_eq_true rfl) sh_240 ⟨by decide, rfl⟩ (Nat.le_refl _) (Nat.le_refl _) (qX10_isDirector hg hm (fun b2 => ?_) (fun b2 => ?_))
  ·
    refine z_if_ne (tgt := 10) dX10_director_5 (by decide) (fun _ => ?_) (fun q => False.elim (by omega))
    have f1 := nb0 hm.2.2.2.2.1 b2.1 b2.2
    refine z_iload_n dX10_director_10 rfl ?_
    refine y_ts (td := 134) [60, 66, 73, 79, 86, 93, 100, 106, 112] dX10_director_11 (by decide) (by decide) (by decide) (fun c11 => ?_) (fun j11 hj11 c11 => ?_)
    ·
      refine z_iconst dX10_director_134 ⟨by decide, by decide⟩ ?_
      refine z_ret (v := some (zi _)) dX10_director_135 trivial (Nat.add_zero _).symm (Nat.add_zero _).symm rfl ?_
      have hQ := hQ _ (SE_rf h)
      rw [dirF, if_pos b2, if_neg (by omega), if_neg (by omega), if_neg (by omega), if_neg (by omega), if_neg (by omega), if_neg (by omega), if_neg (by omega), if_neg (by omega), if_neg (by omega)] at hQ
      exact hQ
    ·
      rcases (show j11 = 0 ∨ j11 = 1 ∨ j11 = 2 ∨ j11 = 3 ∨ j11 = 4 ∨ j11 = 5 ∨ j11 = 6 ∨ j11 = 7 ∨ j11 = 8 by have h9 : j11 < 9 := hj11; omega) with rfl | rfl | rfl | rfl | rfl | rfl | rfl | rfl | rfl
      ·
        refine z_aload_n dX10_director_60 rfl (by omega) ?_
        refine z_iload_n dX10_director_61 rfl ?_
        refine z_callV (T := mX10_strength) (As := [_]) kX10_strength ml_X10_160 ⟨by decide, by decide⟩ dX10_director_62 rfl rfl (Nat.le_of_ble_eq_true rfl) sh_240 ⟨by decide, rfl⟩ (Nat.le_refl _) (Nat.le_refl _) (qX10_strength hg (by omega) (by omega) ?_)
        refine z_ret (v := some (zi _)) dX10_director_65 trivial (Nat.add_zero _).symm (Nat.add_zero _).symm rfl ?_
        have hQ := hQ _ (SE_rf h)
        rw [dirF, if_pos b2, if_pos (by omega)] at hQ
        exact hQ
      ·
        refine z_aload_n dX10_director_66 rfl (by omega) ?_
        refine z_iload_n dX10_director_67 rfl ?_
        refine z_iconst dX10_director_68 ⟨by decide, by decide⟩ ?_
        refine z_callV (T := mX10_of) (As := [_, _]) kX10_of ml_X10_76 ⟨by decide, by decide⟩ dX10_director_69 rfl rfl (Nat.le_of_ble_eq_true rfl) sh_240 ⟨by decide, rfl⟩ (Nat.le_refl _) (Nat.le_refl _) (qX10_of hg (by omega) (by omega) (by omega) (by omega) rfl ?_)
        refine z_ret (v := some (zi _)) dX10_director_72 trivial (Nat.add_zero _).symm (Nat.add_zero _).symm rfl ?_
        have hQ := hQ _ (SE_rf h)
        rw [dirF, if_pos b2, if_neg (by omega), if_pos (by omega)] at hQ
        exact hQ
      ·
        refine z_aload_n dX10_director_73 rfl (by omega) ?_
        refine z_iload_n dX10_director_74 rfl ?_
        refine z_callV (T := mX10_gravity) (As := [_]) kX10_gravity ml_X10_182 ⟨by decide, by decide⟩ dX10_director_75 rfl rfl (Nat.le_of_ble_eq_true rfl) sh_240 ⟨by decide, rfl⟩ (Nat.le_refl _) (Nat.le_refl _) (qX10_gravity hg (by omega) (by omega) ?_)
        refine z_ret (v := some (zi _)) dX10_director_78 trivial (Nat.add_zero _).symm (Nat.add_zero _).symm rfl ?_
        have hQ := hQ _ (SE_rf h)
        rw [dirF, if_pos b2, if_neg (by omega), if_neg (by omega), if_pos (by omega)] at hQ
        exact hQ
      ·
        refine z_aload_n dX10_director_79 rfl (by omega) ?_
        refine z_iload_n dX10_director_80 rfl ?_
        refine z_iconst dX10_director_81 ⟨by decide, by decide⟩ ?_
        refine z_callV (T := mX10_of) (As := [_, _]) kX10_of ml_X10_76 ⟨by decide, by decide⟩ dX10_director_82 rfl rfl (Nat.le_of_ble_eq_true rfl) sh_240 ⟨by decide, rfl⟩ (Nat.le_refl _) (Nat.le_refl _) (qX10_of hg (by omega) (by omega) (by omega) (by omega) (by rw [Int.add_zero]) ?_)
        refine z_ret (v := some (zi _)) dX10_director_85 trivial (Nat.add_zero _).symm (Nat.add_zero _).symm rfl ?_
        have hQ := hQ _ (SE_rf h)
        rw [dirF, if_pos b2, if_neg (by omega), if_neg (by omega), if_neg (by omega), if_pos (by omega)] at hQ
        exact hQ
      ·
        refine z_aload_n dX10_director_86 rfl (by omega) ?_
        refine z_iload_n dX10_director_87 rfl ?_
        refine z_iconst dX10_director_88 ⟨by decide, by decide⟩ ?_
        refine z_callV (T := mX10_of) (As := [_, _]) kX10_of ml_X10_76 ⟨by decide, by decide⟩ dX10_director_89 rfl rfl (Nat.le_of_ble_eq_true rfl) sh_240 ⟨by decide, rfl⟩ (Nat.le_refl _) (Nat.le_refl _) (qX10_of hg (by omega) (by omega) (by omega) (by omega) rfl ?_)
        refine z_ret (v := some (zi _)) dX10_director_92 trivial (Nat.add_zero _).symm (Nat.add_zero _).symm rfl ?_
        have hQ := hQ _ (SE_rf h)
        rw [dirF, if_pos b2, if_neg (by omega), if_neg (by omega), if_neg (by omega), if_neg (by omega), if_pos (by omega)] at hQ
        exact hQ
      ·
        refine z_aload_n dX10_director_93 rfl (by omega) ?_
        refine z_iload_n dX10_director_94 rfl ?_
        refine z_iconst dX10_director_95 ⟨by decide, by decide⟩ ?_
        refine z_callV (T := mX10_of) (As := [_, _]) kX10_of ml_X10_76 ⟨by decide, by decide⟩ dX10_director_96 rfl rfl (Nat.le_of_ble_eq_true rfl) sh_240 ⟨by decide, rfl⟩ (Nat.le_refl _) (Nat.le_refl _) (qX10_of hg (by omega) (by omega) (by omega) (by omega) rfl ?_)
        refine z_ret (v := some (zi _)) dX10_director_99 trivial (Nat.add_zero _).symm (Nat.add_zero _).symm rfl ?_
        have hQ := hQ _ (SE_rf h)
        rw [dirF, if_pos b2, if_neg (by omega), if_neg (by omega), if_neg (by omega), if_neg (by omega), if_neg (by omega), if_pos (by omega)] at hQ
        exact hQ
      ·
        refine z_aload_n dX10_director_100 rfl (by omega) ?_
        refine z_iload_n dX10_director_101 rfl ?_
        refine z_callV (T := mX10_friends) (As := [_]) kX10_friends ml_X10_185 ⟨by decide, by decide⟩ dX10_director_102 rfl rfl (Nat.le_of_ble_eq_true rfl) sh_240 ⟨by decide, rfl⟩ (Nat.le_refl _) (Nat.le_refl _) (qX10_friends hg (by omega) (by omega) ?_)
        refine z_ret (v := some (zi _)) dX10_director_105 trivial (Nat.add_zero _).symm (Nat.add_zero _).symm rfl ?_
        have hQ := hQ _ (SE_rf h)
        rw [dirF, if_pos b2, if_neg (by omega), if_neg (by omega), if_neg (by omega), if_neg (by omega), if_neg (by omega), if_neg (by omega), if_pos (by omega)] at hQ
        exact hQ
      ·
        refine z_aload_n dX10_director_106 rfl (by omega) ?_
        refine z_iload_n dX10_director_107 rfl ?_
        refine z_callV (T := mX10_reach) (As := [_]) kX10_reach ml_X10_188 ⟨by decide, by decide⟩ dX10_director_108 rfl rfl (Nat.le_of_ble_eq_true rfl) sh_240 ⟨by decide, rfl⟩ (Nat.le_refl _) (Nat.le_refl _) (qX10_reach hg hm b2.1 b2.2 (fun f => ?_))
        refine z_ret (v := some (zi _)) dX10_director_111 trivial (Nat.add_zero _).symm (Nat.add_zero _).symm rfl ?_
        have hQ := hQ _ (SE_hf h f)
        rw [dirF, if_pos b2, if_neg (by omega), if_neg (by omega), if_neg (by omega), if_neg (by omega), if_neg (by omega), if_neg (by omega), if_neg (by omega), if_pos (by omega)] at hQ
        exact hQ
      ·
        refine z_aload_n dX10_director_112 rfl (by omega) ?_
        refine z_iload_n dX10_director_113 rfl ?_
        refine z_callV (T := mX10_strength) (As := [_]) kX10_strength ml_X10_160 ⟨by decide, by decide⟩ dX10_director_114 rfl rfl (Nat.le_of_ble_eq_true rfl) sh_240 ⟨by decide, rfl⟩ (Nat.le_refl _) (Nat.le_refl _) (qX10_strength hg (by omega) (by omega) ?_)
        refine z_iconst dX10_director_117 ⟨by decide, by decide⟩ ?_
        refine z_aload_n dX10_director_118 rfl (by omega) ?_
        refine z_iload_n dX10_director_119 rfl ?_
        refine z_iconst dX10_director_120 ⟨by decide, by decide⟩ ?_
        refine z_callV (T := mX10_of) (As := [_, _]) kX10_of ml_X10_76 ⟨by decide, by decide⟩ dX10_director_121 rfl rfl (Nat.le_of_ble_eq_true rfl) sh_240 ⟨by decide, rfl⟩ (Nat.le_refl _) (Nat.le_refl _) (qX10_of hg (by omega) (by omega) (by omega) (by omega) rfl ?_)
        refine y_imul dX10_director_124 (by omega) (by omega) ?_
        refine z_icmp_lt (tgt := 132) dX10_director_125 (by decide) (fun c125 => ?_) (fun c125 => ?_)
        ·
          refine z_iconst dX10_director_132 ⟨by decide, by decide⟩ ?_
          refine z_ret (v := some (zi _)) dX10_director_133 trivial (Nat.add_zero _).symm (Nat.add_zero _).symm rfl ?_
          have hQ := hQ _ (SE_rf h)
          rw [dirF, if_pos b2, if_neg (by omega), if_neg (by omega), if_neg (by omega), if_neg (by omega), if_neg (by omega), if_neg (by omega), if_neg (by omega), if_neg (by omega), if_pos (by omega)] at hQ
          first
            | (rw [if_pos (by omega)] at hQ; exact hQ)
            | (rw [if_neg (by omega)] at hQ; exact hQ)
        ·
          refine z_iconst dX10_director_128 ⟨by decide, by decide⟩ ?_
          refine z_goto (tgt := 133) dX10_director_129 (by decide) ?_
          refine z_ret (v := some (zi _)) dX10_director_133 trivial (Nat.add_zero _).symm (Nat.add_zero _).symm rfl ?_
          have hQ := hQ _ (SE_rf h)
          rw [dirF, if_pos b2, if_neg (by omega), if_neg (by omega), if_neg (by omega), if_neg (by omega), if_neg (by omega), if_neg (by omega), if_neg (by omega), if_neg (by omega), if_pos (by omega)] at hQ
          first
            | (rw [if_pos (by omega)] at hQ; exact hQ)
            | (rw [if_neg (by omega)] at hQ; exact hQ)
  ·
    refine z_if_ne (tgt := 10) dX10_director_5 (by decide) (fun q => False.elim (by omega)) (fun _ => ?_)
    refine z_iconst dX10_director_8 ⟨by decide, by decide⟩ ?_
    refine z_ret (v := some (zi _)) dX10_director_9 trivial (Nat.add_zero _).symm (Nat.add_zero _).symm rfl ?_
    have hQ := hQ _ (SE_rf h)
    rw [dirF, if_neg b2] at hQ
    exact hQ
