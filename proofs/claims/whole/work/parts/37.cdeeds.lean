/-! The class: its deeds. -/
theorem qX6_lookInto {l : Launch} {g h : zH} {Q : zQt} (hg : zGd g) {d c s k : Int} (d0 : 0 ≤ d) (d1 : d < 6) (c0 : 0 ≤ c) (c1 : c < 4) (es : h 26 d = s) (ek : h 28 d = k) (s0 : 0 ≤ s) (s1 : s ≤ 99) (k0 : 0 ≤ k) (k1 : k ≤ 999) (hQ : Q none (SHL, g) (zup (zup (zup h 26 d (min 99 (s + 1))) 28 d (min 999 (k + 1))) 29 c 0)) : zC l mX6_lookInto [zr 24, zi d, zi c] (SHL, g) h Q := by
  refine z_method kX6_lookInto.1 rfl (Nat.le_of_ble_eq_true rfl) (fun hok hh => ?_)
  refine z_aload_n dX6_lookInto_0 rfl (by omega) ?_
  refine y_geta (k' := 1) fl_X6_15 rfl dX6_lookInto_1 sh_24 (by decide) (gf_24_1 hg) ?_
  refine z_iload_n dX6_lookInto_4 rfl ?_
  refine z_bipush dX6_lookInto_5 ⟨by decide, by decide⟩ ?_
  refine z_aload_n dX6_lookInto_7 rfl (by omega) ?_
  refine y_geta (k' := 1) fl_X6_15 rfl dX6_lookInto_8 sh_24 (by decide) (gf_24_1 hg) ?_
  refine z_iload_n dX6_lookInto_11 rfl ?_
  refine z_iaload dX6_lookInto_12 sh_26 (by omega) (by omega) es ?_
  refine z_iconst dX6_lookInto_13 ⟨by decide, by decide⟩ ?_
  refine y_iadd dX6_lookInto_14 (by omega) (by omega) ?_
  refine z_mmin kmin ml_X6_39 (by decide) (Nat.le_of_ble_eq_true rfl) (Nat.le_add_right _ _) (Nat.le_add_right _ _) dX6_lookInto_15 ?_
  refine z_iastore dX6_lookInto_18 sh_26 (by omega) (by omega) ?_
  refine z_aload_n dX6_lookInto_19 rfl (by omega) ?_
  refine y_geta (k' := 3) fl_X6_21 rfl dX6_lookInto_20 sh_24 (by decide) (gf_24_3 hg) ?_
  refine z_iload_n dX6_lookInto_23 rfl ?_
  refine z_sipush dX6_lookInto_24 ⟨by decide, by decide⟩ ?_
  refine z_aload_n dX6_lookInto_27 rfl (by omega) ?_
  refine y_geta (k' := 3) fl_X6_21 rfl dX6_lookInto_28 sh_24 (by decide) (gf_24_3 hg) ?_
  refine z_iload_n dX6_lookInto_31 rfl ?_
  refine z_iaload dX6_lookInto_32 sh_28 (by omega) (by omega) ((zup_ne (by omega)).trans ek) ?_
  refine z_iconst dX6_lookInto_33 ⟨by decide, by decide⟩ ?_
  refine y_iadd dX6_lookInto_34 (by omega) (by omega) ?_
  refine z_mmin kmin ml_X6_39 (by decide) (Nat.le_of_ble_eq_true rfl) (Nat.le_add_right _ _) (Nat.le_add_right _ _) dX6_lookInto_35 ?_
  refine z_iastore dX6_lookInto_38 sh_28 (by omega) (by omega) ?_
  refine z_aload_n dX6_lookInto_39 rfl (by omega) ?_
  refine y_geta (k' := 4) fl_X6_24 rfl dX6_lookInto_40 sh_24 (by decide) (gf_24_4 hg) ?_
  refine z_iload_n dX6_lookInto_43 rfl ?_
  refine z_iconst dX6_lookInto_44 ⟨by decide, by decide⟩ ?_
  refine z_iastore dX6_lookInto_45 sh_29 (by omega) (by omega) ?_
  refine z_ret (v := none) dX6_lookInto_46 trivial (Nat.add_zero _).symm (Nat.add_zero _).symm rfl ?_
  exact hQ
def bgX (h : zH) (t : Int) : zH := cpo (cpo h 25 0 (t + 7) 0 6) 26 0 (t + 5) 0 6
/-- a house begins -/
def bgH (h : zH) (t : Int) : zH := zup (har (har (har (bgX h t) 27 6 (fun _ => 0)) 28 6 (fun _ => 0)) 29 4 (fun _ => 0)) 24 5 0
theorem lpX6_begin1 {l : Launch} {g h : zH} {Q : zQt} {t : Int} (hg : zGd g) (ht : t = 4 ∨ t = 14) (K : zW zX0 l mX6_begin ((SHL, g).1.length + zmc mX6_begin) (ztot (SHL, g) + zms mX6_begin) Q 50 [some (zr 24), some (zr t), some (zi ((6 : Nat) : Int))] [] (SHL, g) (har (har h 27 (6) (fun _ => 0)) 28 (6) (fun _ => 0))) : ∀ (n i : Nat), i + n = 6 → zW zX0 l mX6_begin ((SHL, g).1.length + zmc mX6_begin) (ztot (SHL, g) + zms mX6_begin) Q 24 [some (zr 24), some (zr t), some (zi (i : Int))] [] (SHL, g) (har (har h 27 i (fun _ => 0)) 28 i (fun _ => 0)) := by
  obtain ⟨ts0, ts1, ts2, ts3, ts4, ts5, ts6, ts7, ts8, ts9, tg4, tg5, tg6, tg7, tg8, tg9, tg10, tg11, tg12⟩ := houseF hg ht
  intro n
  induction n with
  | zero =>
    intro i hi 
    have e9 : i = 6 := by omega
    subst e9
    refine z_iload_n dX6_begin_24 rfl ?_
    refine z_bipush dX6_begin_25 ⟨by decide, by decide⟩ ?_
    refine z_icmp_ge (tgt := 50) dX6_begin_27 (by decide) (fun _ => ?_) (fun q => False.elim (by omega))
    exact K
  | succ n ih =>
    intro i hi 
    refine z_iload_n dX6_begin_24 rfl ?_
    refine z_bipush dX6_begin_25 ⟨by decide, by decide⟩ ?_
    refine z_icmp_ge (tgt := 50) dX6_begin_27 (by decide) (fun q => False.elim (by omega)) (fun _ => ?_)
    refine z_aload_n dX6_begin_30 rfl (by omega) ?_
    refine y_geta (k' := 2) fl_X6_18 rfl dX6_begin_31 sh_24 (by decide) (gf_24_2 hg) ?_
    refine z_iload_n dX6_begin_34 rfl ?_
    refine z_iconst dX6_begin_35 ⟨by decide, by decide⟩ ?_
    refine z_iastore dX6_begin_36 sh_27 (by omega) (by omega) ?_
    refine z_aload_n dX6_begin_37 rfl (by omega) ?_
    refine y_geta (k' := 3) fl_X6_21 rfl dX6_begin_38 sh_24 (by decide) (gf_24_3 hg) ?_
    refine z_iload_n dX6_begin_41 rfl ?_
    refine z_iconst dX6_begin_42 ⟨by decide, by decide⟩ ?_
    refine z_iastore dX6_begin_43 sh_28 (by omega) (by omega) ?_
    refine y_iinc dX6_begin_44 (by decide) rfl rfl (by omega) (by omega) lss_3_2 ?_
    refine z_goto (tgt := 24) dX6_begin_47 (by decide) ?_
    have q := ih (i + 1) (by omega)
    rw [har_succ, har_succ, ← har_zup i (fun _ => 0) (by decide)] at q
    exact q
theorem lpX6_begin2 {l : Launch} {g h : zH} {Q : zQt} {t : Int} (hg : zGd g) (ht : t = 4 ∨ t = 14) (K : zW zX0 l mX6_begin ((SHL, g).1.length + zmc mX6_begin) (ztot (SHL, g) + zms mX6_begin) Q 70 [some (zr 24), some (zr t), some (zi ((4 : Nat) : Int))] [] (SHL, g) (har h 29 (4) (fun _ => 0))) : ∀ (n i : Nat), i + n = 4 → zW zX0 l mX6_begin ((SHL, g).1.length + zmc mX6_begin) (ztot (SHL, g) + zms mX6_begin) Q 52 [some (zr 24), some (zr t), some (zi (i : Int))] [] (SHL, g) (har h 29 i (fun _ => 0)) := by
  obtain ⟨ts0, ts1, ts2, ts3, ts4, ts5, ts6, ts7, ts8, ts9, tg4, tg5, tg6, tg7, tg8, tg9, tg10, tg11, tg12⟩ := houseF hg ht
  intro n
  induction n with
  | zero =>
    intro i hi 
    have e9 : i = 4 := by omega
    subst e9
    refine z_iload_n dX6_begin_52 rfl ?_
    refine z_iconst dX6_begin_53 ⟨by decide, by decide⟩ ?_
    refine z_icmp_ge (tgt := 70) dX6_begin_54 (by decide) (fun _ => ?_) (fun q => False.elim (by omega))
    exact K
  | succ n ih =>
    intro i hi 
    refine z_iload_n dX6_begin_52 rfl ?_
    refine z_iconst dX6_begin_53 ⟨by decide, by decide⟩ ?_
    refine z_icmp_ge (tgt := 70) dX6_begin_54 (by decide) (fun q => False.elim (by omega)) (fun _ => ?_)
    refine z_aload_n dX6_begin_57 rfl (by omega) ?_
    refine y_geta (k' := 4) fl_X6_24 rfl dX6_begin_58 sh_24 (by decide) (gf_24_4 hg) ?_
    refine z_iload_n dX6_begin_61 rfl ?_
    refine z_iconst dX6_begin_62 ⟨by decide, by decide⟩ ?_
    refine z_iastore dX6_begin_63 sh_29 (by omega) (by omega) ?_
    refine y_iinc dX6_begin_64 (by decide) rfl rfl (by omega) (by omega) lss_3_2 ?_
    refine z_goto (tgt := 52) dX6_begin_67 (by decide) ?_
    have q := ih (i + 1) (by omega)
    rw [har_succ] at q
    exact q
theorem qX6_begin {l : Launch} {g h : zH} {Q : zQt} {t : Int} (hg : zGd g) (ht : t = 4 ∨ t = 14) (hQ : Q none (SHL, g) (bgH h t)) : zC l mX6_begin [zr 24, zr t] (SHL, g) h Q := by
  obtain ⟨ts0, ts1, ts2, ts3, ts4, ts5, ts6, ts7, ts8, ts9, tg4, tg5, tg6, tg7, tg8, tg9, tg10, tg11, tg12⟩ := houseF hg ht
  refine z_method kX6_begin.1 rfl (Nat.le_of_ble_eq_true rfl) (fun hok hh => ?_)
  refine z_aload_n dX6_begin_0 rfl (by omega) ?_
  refine y_geta (k' := 10) fl_X6_27 rfl dX6_begin_1 ts0 (by decide) tg10 ?_
  refine z_aload_n dX6_begin_4 rfl (by omega) ?_
  refine y_geta (k' := 0) fl_X6_9 rfl dX6_begin_5 sh_24 (by decide) (gf_24_0 hg) ?_
  refine z_callSN (T := mX9_copyRow) (As := [_, _]) kX9_copyRow ml_X6_30 ⟨by decide, by decide⟩ dX6_begin_8 rfl rfl (Nat.le_of_ble_eq_true rfl) (Nat.le_refl _) (Nat.le_refl _) (qX9_copyRow hg ts7 sh_25 (by omega) (by omega) (by omega) (by omega) ?_)
  refine z_aload_n dX6_begin_11 rfl (by omega) ?_
  refine y_geta (k' := 8) fl_X6_34 rfl dX6_begin_12 ts0 (by decide) tg8 ?_
  refine z_aload_n dX6_begin_15 rfl (by omega) ?_
  refine y_geta (k' := 1) fl_X6_15 rfl dX6_begin_16 sh_24 (by decide) (gf_24_1 hg) ?_
  refine z_callSN (T := mX9_copyRow) (As := [_, _]) kX9_copyRow ml_X6_30 ⟨by decide, by decide⟩ dX6_begin_19 rfl rfl (Nat.le_of_ble_eq_true rfl) (Nat.le_refl _) (Nat.le_refl _) (qX9_copyRow hg ts5 sh_26 (by omega) (by omega) (by omega) (by omega) ?_)
  refine z_iconst dX6_begin_22 ⟨by decide, by decide⟩ ?_
  refine z_istore_n dX6_begin_23 (by decide) rfl lss_3_2 ?_
  have K1 := lpX6_begin1 (l := l) (h := bgX h t) (Q := Q) hg ht (by
    refine z_iconst dX6_begin_50 ⟨by decide, by decide⟩ ?_
    refine z_istore_n dX6_begin_51 (by decide) rfl lss_3_2 ?_
    have K2 := lpX6_begin2 (l := l) (h := har (har (bgX h t) 27 6 (fun _ => 0)) 28 6 (fun _ => 0)) (Q := Q) hg ht (by
      refine z_aload_n dX6_begin_70 rfl (by omega) ?_
      refine z_iconst dX6_begin_71 ⟨by decide, by decide⟩ ?_
      refine y_puti (k' := 5) fl_X6_35 rfl dX6_begin_72 sh_24 (by decide)  ?_
      refine z_ret (v := none) dX6_begin_75 trivial (Nat.add_zero _).symm (Nat.add_zero _).symm rfl ?_
      exact hQ) 4 0 rfl
    rw [har_0] at K2
    exact K2) 6 0 rfl
  rw [har_0, har_0] at K1
  exact K1
def goesC (g h : zH) (t d p : Int) : Int × zH × zH := if 0 ≤ d ∧ d < h t 2 then (if 0 ≤ p ∧ p < h t 1 then (if 0 ≤ othC h t p (h 25 d) ∧ mayC h t d p then (othC h t p (h 25 d), rmG g h, zup (zup (remH g h) 25 d (othC h t p (h 25 d))) 27 d (min 9999 (h 27 d + h 26 d * h (t + 3) p))) else (-2, g, h)) else (-1, g, h)) else (-1, g, h)
def restsC (g h : zH) (t d : Int) : Int × zH × zH := if 0 ≤ d ∧ d < h t 2 then (if h 27 d = 0 then (-2, g, h) else (h 27 d, rmG g h, zup (remH g h) 27 d 0)) else (-1, g, h)
def offC (g h : zH) (t d c n : Int) : Int × zH × zH := if 0 ≤ d ∧ d < h t 2 then (if 0 ≤ c ∧ c < h t 3 then (if 1 ≤ n ∧ n ≤ 9 then (if h 29 c + n < h (t + 9) c then (h 29 c + n, rmG g h, zup (remH g h) 29 c (h 29 c + n)) else (0, rmG g h, zup (zup (zup (zup (remH g h) 29 c (h 29 c + n)) 26 d (min 99 (h 26 d + 1))) 28 d (min 999 (h 28 d + 1))) 29 c 0)) else (-1, g, h)) else (-1, g, h)) else (-1, g, h)
def shiC (g h : zH) (t a b : Int) : Int × zH × zH := if 0 ≤ a ∧ a < h t 2 then (if 0 ≤ b ∧ b < h t 2 then (if a = b then (-1, g, h) else if h 25 a = h 25 b ∧ 1 ≤ h 26 a ∧ h 26 b < 99 then (h 26 b + 1, rmG g h, zup (zup (remH g h) 26 a (h 26 a - 1)) 26 b (h 26 b + 1)) else (-2, g, h)) else (-1, g, h)) else (-1, g, h)
def undoC (g h : zH) : Int × zH × zH := if h 30 1 = 0 then (-2, g, h) else (h 30 1 - 1, g, CPN (zup h 30 1 (h 30 1 - 1)) 24 (g 31 (h 30 1 - 1)))
set_option maxHeartbeats 2000000 in
theorem qX9_goes {l : Launch} {g h : zH} {Q : zQt} {t : Int} (hg : zGd g) (ht : t = 4 ∨ t = 14) (ht1 : g 1 1 = t) (hc : CB h t) (H : HG g) {d p : Int} (hQ : Q (some (zi (goesC g h t d p).1)) (SHL, (goesC g h t d p).2.1) (goesC g h t d p).2.2) : zC l mX9_goes [zr 1, zi d, zi p] (SHL, g) h Q := by
  obtain ⟨ts0, ts1, ts2, ts3, ts4, ts5, ts6, ts7, ts8, ts9, tg4, tg5, tg6, tg7, tg8, tg9, tg10, tg11, tg12⟩ := houseF hg ht
  obtain ⟨⟨⟨m0, m1, m2, m3⟩, mp, md, mn⟩, ⟨nd, nc, nl⟩, ck, cs, cpp, cl, ct⟩ := id hc
  have t8 : 4 ≤ t ∧ t ≤ 14 := by omega
  refine z_method kX9_goes.1 rfl (Nat.le_of_ble_eq_true rfl) (fun hok hh => ?_)
  refine z_aload_n dX9_goes_0 rfl (by omega) ?_
  refine y_geto (k' := 1) fl_X9_19 rfl dX9_goes_1 sh_1 (by decide) ht1 ?_
  refine z_iload_n dX9_goes_4 rfl ?_
  refine z_callV (T := mX4_hasDirector) (As := [_]) kX4_hasDirector ml_X9_115 ⟨by decide, by decide⟩ dX9_goes_5 rfl rfl (Nat.le_of_ble_eq_true rfl) ts0 ⟨by decide, rfl⟩ (Nat.le_refl _) (Nat.le_refl _) (qX4_hasDirector hg ht (fun b5 => ?_) (fun b5 => ?_))
  ·
    refine z_if_eq (tgt := 22) dX9_goes_8 (by decide) (fun q => False.elim (by omega)) (fun _ => ?_)
    refine z_aload_n dX9_goes_11 rfl (by omega) ?_
    refine y_geto (k' := 1) fl_X9_19 rfl dX9_goes_12 sh_1 (by decide) ht1 ?_
    refine z_iload_n dX9_goes_15 rfl ?_
    refine z_callV (T := mX4_hasPath) (As := [_]) kX4_hasPath ml_X9_98 ⟨by decide, by decide⟩ dX9_goes_16 rfl rfl (Nat.le_of_ble_eq_true rfl) ts0 ⟨by decide, rfl⟩ (Nat.le_refl _) (Nat.le_refl _) (qX4_hasPath hg ht (fun b16 => ?_) (fun b16 => ?_))
    ·
      refine z_if_ne (tgt := 24) dX9_goes_19 (by decide) (fun _ => ?_) (fun q => False.elim (by omega))
      have f1 : (0 ≤ h 25 d ∧ h 25 d < h t 0) ∧ (0 ≤ h 26 d ∧ h 26 d ≤ 99) ∧ (0 ≤ h 27 d ∧ h 27 d ≤ 9999) ∧ (0 ≤ h 28 d ∧ h 28 d ≤ 999) := nd d b5.1 b5.2
      have f2 := md d b5.1 b5.2
      have f3 := mp p b16.1 b16.2
      have f4 := mulb f1.2.1.1 f1.2.1.2 f3.2.2.1 f3.2.2.2
      refine z_aload_n dX9_goes_24 rfl (by omega) ?_
      refine y_geto (k' := 1) fl_X9_19 rfl dX9_goes_25 sh_1 (by decide) ht1 ?_
      refine z_iload_n dX9_goes_28 rfl ?_
      refine z_aload_n dX9_goes_29 rfl (by omega) ?_
      refine y_geto (k' := 3) fl_X9_29 rfl dX9_goes_30 sh_1 (by decide) (gf_1_3 hg) ?_
      refine y_geta (k' := 0) fl_X9_127 rfl dX9_goes_33 sh_24 (by decide) (gf_24_0 hg) ?_
      refine z_iload_n dX9_goes_36 rfl ?_
      refine z_iaload dX9_goes_37 sh_25 (by omega) (by omega) rfl ?_
      refine z_callV (T := mX4_acrossFrom) (As := [_, _]) kX4_acrossFrom ml_X9_155 ⟨by decide, by decide⟩ dX9_goes_38 rfl rfl (Nat.le_of_ble_eq_true rfl) ts0 ⟨by decide, rfl⟩ (Nat.le_refl _) (Nat.le_refl _) (qX4_acrossFrom hg ht (by omega) (by omega) ?_)
      refine z_istore_n dX9_goes_41 (by decide) rfl lss_4_3 ?_
      refine z_iload_n dX9_goes_42 rfl ?_
      refine z_if_lt (tgt := 55) dX9_goes_43 (by decide) (fun c43 => ?_) (fun c43 => ?_)
      ·
        refine z_bipush dX9_goes_55 ⟨by decide, by decide⟩ ?_
        refine z_ret (v := some (zi _)) dX9_goes_57 trivial (Nat.add_zero _).symm (Nat.add_zero _).symm rfl ?_
        first
          | (rw [goesC, if_pos b5, if_pos b16, if_neg (fun z => by omega)] at hQ; exact hQ)
          | (rw [goesC, if_pos b5, if_pos b16, if_neg (fun z => b49 z.2)] at hQ; exact hQ)
      ·
        refine z_aload_n dX9_goes_46 rfl (by omega) ?_
        refine z_iload_n dX9_goes_47 rfl ?_
        refine z_iload_n dX9_goes_48 rfl ?_
        refine z_callV (T := mX9_mayGo) (As := [_, _]) kX9_mayGo ml_X9_158 ⟨by decide, by decide⟩ dX9_goes_49 rfl rfl (Nat.le_of_ble_eq_true rfl) sh_1 ⟨by decide, rfl⟩ (Nat.le_refl _) (Nat.le_refl _) (qX9_mayGo hg ht ht1 hc (by omega) (by omega) (by omega) (by omega) (fun b49 => ?_) (fun b49 => ?_))
        ·
          refine z_if_ne (tgt := 58) dX9_goes_52 (by decide) (fun _ => ?_) (fun q => False.elim (by omega))
          refine z_aload_n dX9_goes_58 rfl (by omega) ?_
          refine y_geto (k' := 4) fl_X9_36 rfl dX9_goes_59 sh_1 (by decide) (gf_1_4 hg) ?_
          refine z_aload_n dX9_goes_62 rfl (by omega) ?_
          refine y_geto (k' := 3) fl_X9_29 rfl dX9_goes_63 sh_1 (by decide) (gf_1_3 hg) ?_
          refine z_callV (T := mX3_remember) (As := [_]) kX3_remember ml_X9_162 ⟨by decide, by decide⟩ dX9_goes_66 rfl rfl (Nat.le_of_ble_eq_true rfl) sh_30 ⟨by decide, rfl⟩ (Nat.le_refl _) (Nat.le_refl _) (qX3_remember hg H ck.1 ck.2 ?_)
          obtain ⟨G, eG⟩ : ∃ G, rmG g h = G := ⟨_, rfl⟩
          have hgG : zGd G := eG ▸ rmG_d (h := h) hg
          have htG : G 1 1 = t := eG ▸ (rmG_1 (g := g) (h := h)).trans ht1
          clear hg ht1
          rename zGd G => hg
          rename G 1 1 = t => ht1
          rw [eG]
          clear tg4 tg5 tg6 tg7 tg8 tg9 tg10 tg11 tg12
          obtain ⟨ts0, ts1, ts2, ts3, ts4, ts5, ts6, ts7, ts8, ts9, tg4, tg5, tg6, tg7, tg8, tg9, tg10, tg11, tg12⟩ := houseF hg ht
          refine z_aload_n dX9_goes_69 rfl (by omega) ?_
          refine y_geto (k' := 3) fl_X9_29 rfl dX9_goes_70 sh_1 (by decide) (gf_1_3 hg) ?_
          refine y_geta (k' := 0) fl_X9_127 rfl dX9_goes_73 sh_24 (by decide) (gf_24_0 hg) ?_
          refine z_iload_n dX9_goes_76 rfl ?_
          refine z_iload_n dX9_goes_77 rfl ?_
          refine z_iastore dX9_goes_78 sh_25 (by omega) (by omega) ?_
          refine z_aload_n dX9_goes_79 rfl (by omega) ?_
          refine y_geto (k' := 3) fl_X9_29 rfl dX9_goes_80 sh_1 (by decide) (gf_1_3 hg) ?_
          refine y_geta (k' := 2) fl_X9_130 rfl dX9_goes_83 sh_24 (by decide) (gf_24_2 hg) ?_
          refine z_iload_n dX9_goes_86 rfl ?_
          refine z_sipush dX9_goes_87 ⟨by decide, by decide⟩ ?_
          refine z_aload_n dX9_goes_90 rfl (by omega) ?_
          refine y_geto (k' := 3) fl_X9_29 rfl dX9_goes_91 sh_1 (by decide) (gf_1_3 hg) ?_
          refine y_geta (k' := 2) fl_X9_130 rfl dX9_goes_94 sh_24 (by decide) (gf_24_2 hg) ?_
          refine z_iload_n dX9_goes_97 rfl ?_
          refine z_iaload dX9_goes_98 sh_27 (by omega) (by omega) ((zup_ne (by omega)).trans (remH_ne H ck.1 ck.2 (by omega))) ?_
          refine z_aload_n dX9_goes_99 rfl (by omega) ?_
          refine y_geto (k' := 3) fl_X9_29 rfl dX9_goes_100 sh_1 (by decide) (gf_1_3 hg) ?_
          refine y_geta (k' := 1) fl_X9_121 rfl dX9_goes_103 sh_24 (by decide) (gf_24_1 hg) ?_
          refine z_iload_n dX9_goes_106 rfl ?_
          refine z_iaload dX9_goes_107 sh_26 (by omega) (by omega) ((zup_ne (by omega)).trans (remH_ne H ck.1 ck.2 (by omega))) ?_
          refine z_aload_n dX9_goes_108 rfl (by omega) ?_
          refine y_geto (k' := 1) fl_X9_19 rfl dX9_goes_109 sh_1 (by decide) ht1 ?_
          refine y_geta (k' := 6) fl_X9_108 rfl dX9_goes_112 ts0 (by decide) tg6 ?_
          refine z_iload_n dX9_goes_115 rfl ?_
          refine z_iaload dX9_goes_116 ts3 (by omega) (by omega) ((zup_ne (by omega)).trans (remH_ne H ck.1 ck.2 (by omega))) ?_
          refine y_imul dX9_goes_117 (by omega) (by omega) ?_
          refine y_iadd dX9_goes_118 (by omega) (by omega) ?_
          refine z_mmin kmin ml_X9_166 (by decide) (Nat.le_of_ble_eq_true rfl) (Nat.le_add_right _ _) (Nat.le_add_right _ _) dX9_goes_119 ?_
          refine z_iastore dX9_goes_122 sh_27 (by omega) (by omega) ?_
          refine z_iload_n dX9_goes_123 rfl ?_
          refine z_ret (v := some (zi _)) dX9_goes_124 trivial (Nat.add_zero _).symm (Nat.add_zero _).symm rfl ?_
          first
            | (rw [goesC, if_pos b5, if_pos b16, if_pos ⟨by omega, b49⟩] at hQ; rw [eG] at hQ; exact hQ)
        ·
          refine z_if_ne (tgt := 58) dX9_goes_52 (by decide) (fun q => False.elim (by omega)) (fun _ => ?_)
          refine z_bipush dX9_goes_55 ⟨by decide, by decide⟩ ?_
          refine z_ret (v := some (zi _)) dX9_goes_57 trivial (Nat.add_zero _).symm (Nat.add_zero _).symm rfl ?_
          first
            | (rw [goesC, if_pos b5, if_pos b16, if_neg (fun z => by omega)] at hQ; exact hQ)
            | (rw [goesC, if_pos b5, if_pos b16, if_neg (fun z => b49 z.2)] at hQ; exact hQ)
    ·
      refine z_if_ne (tgt := 24) dX9_goes_19 (by decide) (fun q => False.elim (by omega)) (fun _ => ?_)
      refine z_iconst dX9_goes_22 ⟨by decide, by decide⟩ ?_
      refine z_ret (v := some (zi _)) dX9_goes_23 trivial (Nat.add_zero _).symm (Nat.add_zero _).symm rfl ?_
      first
        | (rw [goesC, if_neg b5] at hQ; exact hQ)
        | (rw [goesC, if_pos b5, if_neg b16] at hQ; exact hQ)
  ·
    refine z_if_eq (tgt := 22) dX9_goes_8 (by decide) (fun _ => ?_) (fun q => False.elim (by omega))
    refine z_iconst dX9_goes_22 ⟨by decide, by decide⟩ ?_
    refine z_ret (v := some (zi _)) dX9_goes_23 trivial (Nat.add_zero _).symm (Nat.add_zero _).symm rfl ?_
    first
      | (rw [goesC, if_neg b5] at hQ; exact hQ)
      | (rw [goesC, if_pos b5, if_neg b16] at hQ; exact hQ)
set_option maxHeartbeats 2000000 in
theorem qX9_rests {l : Launch} {g h : zH} {Q : zQt} {t : Int} (hg : zGd g) (ht : t = 4 ∨ t = 14) (ht1 : g 1 1 = t) (hc : CB h t) (H : HG g) {d : Int} (hQ : Q (some (zi (restsC g h t d).1)) (SHL, (restsC g h t d).2.1) (restsC g h t d).2.2) : zC l mX9_rests [zr 1, zi d] (SHL, g) h Q := by
  obtain ⟨ts0, ts1, ts2, ts3, ts4, ts5, ts6, ts7, ts8, ts9, tg4, tg5, tg6, tg7, tg8, tg9, tg10, tg11, tg12⟩ := houseF hg ht
  obtain ⟨⟨⟨m0, m1, m2, m3⟩, mp, md, mn⟩, ⟨nd, nc, nl⟩, ck, cs, cpp, cl, ct⟩ := id hc
  have t8 : 4 ≤ t ∧ t ≤ 14 := by omega
  refine z_method kX9_rests.1 rfl (Nat.le_of_ble_eq_true rfl) (fun hok hh => ?_)
  refine z_aload_n dX9_rests_0 rfl (by omega) ?_
  refine y_geto (k' := 1) fl_X9_19 rfl dX9_rests_1 sh_1 (by decide) ht1 ?_
  refine z_iload_n dX9_rests_4 rfl ?_
  refine z_callV (T := mX4_hasDirector) (As := [_]) kX4_hasDirector ml_X9_115 ⟨by decide, by decide⟩ dX9_rests_5 rfl rfl (Nat.le_of_ble_eq_true rfl) ts0 ⟨by decide, rfl⟩ (Nat.le_refl _) (Nat.le_refl _) (qX4_hasDirector hg ht (fun b5 => ?_) (fun b5 => ?_))
  ·
    refine z_if_ne (tgt := 13) dX9_rests_8 (by decide) (fun _ => ?_) (fun q => False.elim (by omega))
    have f1 : (0 ≤ h 25 d ∧ h 25 d < h t 0) ∧ (0 ≤ h 26 d ∧ h 26 d ≤ 99) ∧ (0 ≤ h 27 d ∧ h 27 d ≤ 9999) ∧ (0 ≤ h 28 d ∧ h 28 d ≤ 999) := nd d b5.1 b5.2
    have f2 := md d b5.1 b5.2
    refine z_aload_n dX9_rests_13 rfl (by omega) ?_
    refine y_geto (k' := 3) fl_X9_29 rfl dX9_rests_14 sh_1 (by decide) (gf_1_3 hg) ?_
    refine y_geta (k' := 2) fl_X9_130 rfl dX9_rests_17 sh_24 (by decide) (gf_24_2 hg) ?_
    refine z_iload_n dX9_rests_20 rfl ?_
    refine z_iaload dX9_rests_21 sh_27 (by omega) (by omega) rfl ?_
    refine z_istore_n dX9_rests_22 (by decide) rfl lss_3_2 ?_
    refine z_iload_n dX9_rests_23 rfl ?_
    refine z_if_ne (tgt := 30) dX9_rests_24 (by decide) (fun c24 => ?_) (fun c24 => ?_)
    ·
      refine z_aload_n dX9_rests_30 rfl (by omega) ?_
      refine y_geto (k' := 4) fl_X9_36 rfl dX9_rests_31 sh_1 (by decide) (gf_1_4 hg) ?_
      refine z_aload_n dX9_rests_34 rfl (by omega) ?_
      refine y_geto (k' := 3) fl_X9_29 rfl dX9_rests_35 sh_1 (by decide) (gf_1_3 hg) ?_
      refine z_callV (T := mX3_remember) (As := [_]) kX3_remember ml_X9_162 ⟨by decide, by decide⟩ dX9_rests_38 rfl rfl (Nat.le_of_ble_eq_true rfl) sh_30 ⟨by decide, rfl⟩ (Nat.le_refl _) (Nat.le_refl _) (qX3_remember hg H ck.1 ck.2 ?_)
      obtain ⟨G, eG⟩ : ∃ G, rmG g h = G := ⟨_, rfl⟩
      have hgG : zGd G := eG ▸ rmG_d (h := h) hg
      have htG : G 1 1 = t := eG ▸ (rmG_1 (g := g) (h := h)).trans ht1
      clear hg ht1
      rename zGd G => hg
      rename G 1 1 = t => ht1
      rw [eG]
      clear tg4 tg5 tg6 tg7 tg8 tg9 tg10 tg11 tg12
      obtain ⟨ts0, ts1, ts2, ts3, ts4, ts5, ts6, ts7, ts8, ts9, tg4, tg5, tg6, tg7, tg8, tg9, tg10, tg11, tg12⟩ := houseF hg ht
      refine z_aload_n dX9_rests_41 rfl (by omega) ?_
      refine y_geto (k' := 3) fl_X9_29 rfl dX9_rests_42 sh_1 (by decide) (gf_1_3 hg) ?_
      refine y_geta (k' := 2) fl_X9_130 rfl dX9_rests_45 sh_24 (by decide) (gf_24_2 hg) ?_
      refine z_iload_n dX9_rests_48 rfl ?_
      refine z_iconst dX9_rests_49 ⟨by decide, by decide⟩ ?_
      refine z_iastore dX9_rests_50 sh_27 (by omega) (by omega) ?_
      refine z_iload_n dX9_rests_51 rfl ?_
      refine z_ret (v := some (zi _)) dX9_rests_52 trivial (Nat.add_zero _).symm (Nat.add_zero _).symm rfl ?_
      first
        | (rw [restsC, if_pos b5, if_neg (by omega)] at hQ; rw [eG] at hQ; exact hQ)
    ·
      refine z_bipush dX9_rests_27 ⟨by decide, by decide⟩ ?_
      refine z_ret (v := some (zi _)) dX9_rests_29 trivial (Nat.add_zero _).symm (Nat.add_zero _).symm rfl ?_
      first
        | (rw [restsC, if_pos b5, if_pos (by omega)] at hQ; exact hQ)
  ·
    refine z_if_ne (tgt := 13) dX9_rests_8 (by decide) (fun q => False.elim (by omega)) (fun _ => ?_)
    refine z_iconst dX9_rests_11 ⟨by decide, by decide⟩ ?_
    refine z_ret (v := some (zi _)) dX9_rests_12 trivial (Nat.add_zero _).symm (Nat.add_zero _).symm rfl ?_
    first
      | (rw [restsC, if_neg b5] at hQ; exact hQ)
set_option maxHeartbeats 2000000 in
theorem qX9_offends {l : Launch} {g h : zH} {Q : zQt} {t : Int} (hg : zGd g) (ht : t = 4 ∨ t = 14) (ht1 : g 1 1 = t) (hc : CB h t) (H : HG g) {d c n : Int} (hQ : Q (some (zi (offC g h t d c n).1)) (SHL, (offC g h t d c n).2.1) (offC g h t d c n).2.2) : zC l mX9_offends [zr 1, zi d, zi c, zi n] (SHL, g) h Q := by
  obtain ⟨ts0, ts1, ts2, ts3, ts4, ts5, ts6, ts7, ts8, ts9, tg4, tg5, tg6, tg7, tg8, tg9, tg10, tg11, tg12⟩ := houseF hg ht
  obtain ⟨⟨⟨m0, m1, m2, m3⟩, mp, md, mn⟩, ⟨nd, nc, nl⟩, ck, cs, cpp, cl, ct⟩ := id hc
  have t8 : 4 ≤ t ∧ t ≤ 14 := by omega
  refine z_method kX9_offends.1 rfl (Nat.le_of_ble_eq_true rfl) (fun hok hh => ?_)
  refine z_aload_n dX9_offends_0 rfl (by omega) ?_
  refine y_geto (k' := 1) fl_X9_19 rfl dX9_offends_1 sh_1 (by decide) ht1 ?_
  refine z_iload_n dX9_offends_4 rfl ?_
  refine z_callV (T := mX4_hasDirector) (As := [_]) kX4_hasDirector ml_X9_115 ⟨by decide, by decide⟩ dX9_offends_5 rfl rfl (Nat.le_of_ble_eq_true rfl) ts0 ⟨by decide, rfl⟩ (Nat.le_refl _) (Nat.le_refl _) (qX4_hasDirector hg ht (fun b5 => ?_) (fun b5 => ?_))
  ·
    refine z_if_eq (tgt := 33) dX9_offends_8 (by decide) (fun q => False.elim (by omega)) (fun _ => ?_)
    refine z_aload_n dX9_offends_11 rfl (by omega) ?_
    refine y_geto (k' := 1) fl_X9_19 rfl dX9_offends_12 sh_1 (by decide) ht1 ?_
    refine z_iload_n dX9_offends_15 rfl ?_
    refine z_callV (T := mX4_hasChild) (As := [_]) kX4_hasChild ml_X9_146 ⟨by decide, by decide⟩ dX9_offends_16 rfl rfl (Nat.le_of_ble_eq_true rfl) ts0 ⟨by decide, rfl⟩ (Nat.le_refl _) (Nat.le_refl _) (qX4_hasChild hg ht (fun b16 => ?_) (fun b16 => ?_))
    ·
      refine z_if_eq (tgt := 33) dX9_offends_19 (by decide) (fun q => False.elim (by omega)) (fun _ => ?_)
      refine z_iload_n dX9_offends_22 rfl ?_
      refine z_iconst dX9_offends_23 ⟨by decide, by decide⟩ ?_
      refine z_icmp_lt (tgt := 33) dX9_offends_24 (by decide) (fun c24 => ?_) (fun c24 => ?_)
      ·
        refine z_iconst dX9_offends_33 ⟨by decide, by decide⟩ ?_
        refine z_ret (v := some (zi _)) dX9_offends_34 trivial (Nat.add_zero _).symm (Nat.add_zero _).symm rfl ?_
        first
          | (rw [offC, if_neg b5] at hQ; exact hQ)
          | (rw [offC, if_pos b5, if_neg b16] at hQ; exact hQ)
          | (rw [offC, if_pos b5, if_pos b16, if_neg (by omega)] at hQ; exact hQ)
      ·
        refine z_iload_n dX9_offends_27 rfl ?_
        refine z_bipush dX9_offends_28 ⟨by decide, by decide⟩ ?_
        refine z_icmp_le (tgt := 35) dX9_offends_30 (by decide) (fun c30 => ?_) (fun c30 => ?_)
        ·
          have f1 : (0 ≤ h 25 d ∧ h 25 d < h t 0) ∧ (0 ≤ h 26 d ∧ h 26 d ≤ 99) ∧ (0 ≤ h 27 d ∧ h 27 d ≤ 9999) ∧ (0 ≤ h 28 d ∧ h 28 d ≤ 999) := nd d b5.1 b5.2
          have f2 := md d b5.1 b5.2
          have f3 : 0 ≤ h 29 c ∧ h 29 c ≤ 9 := nc c b16.1 b16.2
          refine z_aload_n dX9_offends_35 rfl (by omega) ?_
          refine y_geto (k' := 4) fl_X9_36 rfl dX9_offends_36 sh_1 (by decide) (gf_1_4 hg) ?_
          refine z_aload_n dX9_offends_39 rfl (by omega) ?_
          refine y_geto (k' := 3) fl_X9_29 rfl dX9_offends_40 sh_1 (by decide) (gf_1_3 hg) ?_
          refine z_callV (T := mX3_remember) (As := [_]) kX3_remember ml_X9_162 ⟨by decide, by decide⟩ dX9_offends_43 rfl rfl (Nat.le_of_ble_eq_true rfl) sh_30 ⟨by decide, rfl⟩ (Nat.le_refl _) (Nat.le_refl _) (qX3_remember hg H ck.1 ck.2 ?_)
          obtain ⟨G, eG⟩ : ∃ G, rmG g h = G := ⟨_, rfl⟩
          have hgG : zGd G := eG ▸ rmG_d (h := h) hg
          have htG : G 1 1 = t := eG ▸ (rmG_1 (g := g) (h := h)).trans ht1
          clear hg ht1
          rename zGd G => hg
          rename G 1 1 = t => ht1
          rw [eG]
          clear tg4 tg5 tg6 tg7 tg8 tg9 tg10 tg11 tg12
          obtain ⟨ts0, ts1, ts2, ts3, ts4, ts5, ts6, ts7, ts8, ts9, tg4, tg5, tg6, tg7, tg8, tg9, tg10, tg11, tg12⟩ := houseF hg ht
          refine z_aload_n dX9_offends_46 rfl (by omega) ?_
          refine y_geto (k' := 3) fl_X9_29 rfl dX9_offends_47 sh_1 (by decide) (gf_1_3 hg) ?_
          refine y_geta (k' := 4) fl_X9_152 rfl dX9_offends_50 sh_24 (by decide) (gf_24_4 hg) ?_
          refine z_iload_n dX9_offends_53 rfl ?_
          refine z_dup2 dX9_offends_54 rfl rfl ?_
          refine z_iaload dX9_offends_55 sh_29 (by omega) (by omega) (remH_ne H ck.1 ck.2 (by omega)) ?_
          refine z_iload_n dX9_offends_56 rfl ?_
          refine y_iadd dX9_offends_57 (by omega) (by omega) ?_
          refine z_iastore dX9_offends_58 sh_29 (by omega) (by omega) ?_
          refine z_aload_n dX9_offends_59 rfl (by omega) ?_
          refine y_geto (k' := 3) fl_X9_29 rfl dX9_offends_60 sh_1 (by decide) (gf_1_3 hg) ?_
          refine y_geta (k' := 4) fl_X9_152 rfl dX9_offends_63 sh_24 (by decide) (gf_24_4 hg) ?_
          refine z_iload_n dX9_offends_66 rfl ?_
          refine z_iaload dX9_offends_67 sh_29 (by omega) (by omega) (zup_same _ _ _ _) ?_
          refine z_aload_n dX9_offends_68 rfl (by omega) ?_
          refine y_geto (k' := 1) fl_X9_19 rfl dX9_offends_69 sh_1 (by decide) ht1 ?_
          refine y_geta (k' := 12) fl_X9_149 rfl dX9_offends_72 ts0 (by decide) tg12 ?_
          refine z_iload_n dX9_offends_75 rfl ?_
          refine z_iaload dX9_offends_76 ts9 (by omega) (by omega) ((zup_ne (by omega)).trans (remH_ne H ck.1 ck.2 (by omega))) ?_
          refine z_icmp_lt (tgt := 89) dX9_offends_77 (by decide) (fun c77 => ?_) (fun c77 => ?_)
          ·
            refine z_aload_n dX9_offends_89 rfl (by omega) ?_
            refine y_geto (k' := 3) fl_X9_29 rfl dX9_offends_90 sh_1 (by decide) (gf_1_3 hg) ?_
            refine y_geta (k' := 4) fl_X9_152 rfl dX9_offends_93 sh_24 (by decide) (gf_24_4 hg) ?_
            refine z_iload_n dX9_offends_96 rfl ?_
            refine z_iaload dX9_offends_97 sh_29 (by omega) (by omega) (zup_same _ _ _ _) ?_
            refine z_ret (v := some (zi _)) dX9_offends_98 trivial (Nat.add_zero _).symm (Nat.add_zero _).symm rfl ?_
            first
              | (rw [offC, if_pos b5, if_pos b16, if_pos (by omega), if_pos (by omega)] at hQ; rw [eG] at hQ; exact hQ)
              | (rw [offC, if_pos b5, if_pos b16, if_pos (by omega), if_neg (by omega)] at hQ; rw [eG] at hQ; exact hQ)
          ·
            refine z_aload_n dX9_offends_80 rfl (by omega) ?_
            refine y_geto (k' := 3) fl_X9_29 rfl dX9_offends_81 sh_1 (by decide) (gf_1_3 hg) ?_
            refine z_iload_n dX9_offends_84 rfl ?_
            refine z_iload_n dX9_offends_85 rfl ?_
            refine z_callV (T := mX6_lookInto) (As := [_, _]) kX6_lookInto ml_X9_171 ⟨by decide, by decide⟩ dX9_offends_86 rfl rfl (Nat.le_of_ble_eq_true rfl) sh_24 ⟨by decide, rfl⟩ (Nat.le_refl _) (Nat.le_refl _) (qX6_lookInto hg (s := h 26 d) (k := h 28 d) (by omega) (by omega) (by omega) (by omega) ((zup_ne (by omega)).trans (remH_ne H ck.1 ck.2 (by omega))) ((zup_ne (by omega)).trans (remH_ne H ck.1 ck.2 (by omega))) (by omega) (by omega) (by omega) (by omega) ?_)
            refine z_aload_n dX9_offends_89 rfl (by omega) ?_
            refine y_geto (k' := 3) fl_X9_29 rfl dX9_offends_90 sh_1 (by decide) (gf_1_3 hg) ?_
            refine y_geta (k' := 4) fl_X9_152 rfl dX9_offends_93 sh_24 (by decide) (gf_24_4 hg) ?_
            refine z_iload_n dX9_offends_96 rfl ?_
            refine z_iaload dX9_offends_97 sh_29 (by omega) (by omega) (zup_same _ _ _ _) ?_
            refine z_ret (v := some (zi _)) dX9_offends_98 trivial (Nat.add_zero _).symm (Nat.add_zero _).symm rfl ?_
            first
              | (rw [offC, if_pos b5, if_pos b16, if_pos (by omega), if_pos (by omega)] at hQ; rw [eG] at hQ; exact hQ)
              | (rw [offC, if_pos b5, if_pos b16, if_pos (by omega), if_neg (by omega)] at hQ; rw [eG] at hQ; exact hQ)
        ·
          refine z_iconst dX9_offends_33 ⟨by decide, by decide⟩ ?_
          refine z_ret (v := some (zi _)) dX9_offends_34 trivial (Nat.add_zero _).symm (Nat.add_zero _).symm rfl ?_
          first
            | (rw [offC, if_neg b5] at hQ; exact hQ)
            | (rw [offC, if_pos b5, if_neg b16] at hQ; exact hQ)
            | (rw [offC, if_pos b5, if_pos b16, if_neg (by omega)] at hQ; exact hQ)
    ·
      refine z_if_eq (tgt := 33) dX9_offends_19 (by decide) (fun _ => ?_) (fun q => False.elim (by omega))
      refine z_iconst dX9_offends_33 ⟨by decide, by decide⟩ ?_
      refine z_ret (v := some (zi _)) dX9_offends_34 trivial (Nat.add_zero _).symm (Nat.add_zero _).symm rfl ?_
      first
        | (rw [offC, if_neg b5] at hQ; exact hQ)
        | (rw [offC, if_pos b5, if_neg b16] at hQ; exact hQ)
        | (rw [offC, if_pos b5, if_pos b16, if_neg (by omega)] at hQ; exact hQ)
  ·
    refine z_if_eq (tgt := 33) dX9_offends_8 (by decide) (fun _ => ?_) (fun q => False.elim (by omega))
    refine z_iconst dX9_offends_33 ⟨by decide, by decide⟩ ?_
    refine z_ret (v := some (zi _)) dX9_offends_34 trivial (Nat.add_zero _).symm (Nat.add_zero _).symm rfl ?_
    first
      | (rw [offC, if_neg b5] at hQ; exact hQ)
      | (rw [offC, if_pos b5, if_neg b16] at hQ; exact hQ)
      | (rw [offC, if_pos b5, if_pos b16, if_neg (by omega)] at hQ; exact hQ)
set_option maxHeartbeats 2000000 in
theorem qX9_shifts {l : Launch} {g h : zH} {Q : zQt} {t : Int} (hg : zGd g) (ht : t = 4 ∨ t = 14) (ht1 : g 1 1 = t) (hc : CB h t) (H : HG g) {a b : Int} (hQ : Q (some (zi (shiC g h t a b).1)) (SHL, (shiC g h t a b).2.1) (shiC g h t a b).2.2) : zC l mX9_shifts [zr 1, zi a, zi b] (SHL, g) h Q := by
  obtain ⟨ts0, ts1, ts2, ts3, ts4, ts5, ts6, ts7, ts8, ts9, tg4, tg5, tg6, tg7, tg8, tg9, tg10, tg11, tg12⟩ := houseF hg ht
  obtain ⟨⟨⟨m0, m1, m2, m3⟩, mp, md, mn⟩, ⟨nd, nc, nl⟩, ck, cs, cpp, cl, ct⟩ := id hc
  have t8 : 4 ≤ t ∧ t ≤ 14 := by omega
  refine z_method kX9_shifts.1 rfl (Nat.le_of_ble_eq_true rfl) (fun hok hh => ?_)
  refine z_aload_n dX9_shifts_0 rfl (by omega) ?_
  refine y_geto (k' := 1) fl_X9_19 rfl dX9_shifts_1 sh_1 (by decide) ht1 ?_
  refine z_iload_n dX9_shifts_4 rfl ?_
  refine z_callV (T := mX4_hasDirector) (As := [_]) kX4_hasDirector ml_X9_115 ⟨by decide, by decide⟩ dX9_shifts_5 rfl rfl (Nat.le_of_ble_eq_true rfl) ts0 ⟨by decide, rfl⟩ (Nat.le_refl _) (Nat.le_refl _) (qX4_hasDirector hg ht (fun b5 => ?_) (fun b5 => ?_))
  ·
    refine z_if_eq (tgt := 27) dX9_shifts_8 (by decide) (fun q => False.elim (by omega)) (fun _ => ?_)
    refine z_aload_n dX9_shifts_11 rfl (by omega) ?_
    refine y_geto (k' := 1) fl_X9_19 rfl dX9_shifts_12 sh_1 (by decide) ht1 ?_
    refine z_iload_n dX9_shifts_15 rfl ?_
    refine z_callV (T := mX4_hasDirector) (As := [_]) kX4_hasDirector ml_X9_115 ⟨by decide, by decide⟩ dX9_shifts_16 rfl rfl (Nat.le_of_ble_eq_true rfl) ts0 ⟨by decide, rfl⟩ (Nat.le_refl _) (Nat.le_refl _) (qX4_hasDirector hg ht (fun b16 => ?_) (fun b16 => ?_))
    ·
      refine z_if_eq (tgt := 27) dX9_shifts_19 (by decide) (fun q => False.elim (by omega)) (fun _ => ?_)
      refine z_iload_n dX9_shifts_22 rfl ?_
      refine z_iload_n dX9_shifts_23 rfl ?_
      refine z_icmp_ne (tgt := 29) dX9_shifts_24 (by decide) (fun c24 => ?_) (fun c24 => ?_)
      ·
        have f1 : (0 ≤ h 25 a ∧ h 25 a < h t 0) ∧ (0 ≤ h 26 a ∧ h 26 a ≤ 99) ∧ _ := nd a b5.1 b5.2
        have f2 : (0 ≤ h 25 b ∧ h 25 b < h t 0) ∧ (0 ≤ h 26 b ∧ h 26 b ≤ 99) ∧ _ := nd b b16.1 b16.2
        refine z_aload_n dX9_shifts_29 rfl (by omega) ?_
        refine y_geto (k' := 3) fl_X9_29 rfl dX9_shifts_30 sh_1 (by decide) (gf_1_3 hg) ?_
        refine y_geta (k' := 0) fl_X9_127 rfl dX9_shifts_33 sh_24 (by decide) (gf_24_0 hg) ?_
        refine z_iload_n dX9_shifts_36 rfl ?_
        refine z_iaload dX9_shifts_37 sh_25 (by omega) (by omega) rfl ?_
        refine z_aload_n dX9_shifts_38 rfl (by omega) ?_
        refine y_geto (k' := 3) fl_X9_29 rfl dX9_shifts_39 sh_1 (by decide) (gf_1_3 hg) ?_
        refine y_geta (k' := 0) fl_X9_127 rfl dX9_shifts_42 sh_24 (by decide) (gf_24_0 hg) ?_
        refine z_iload_n dX9_shifts_45 rfl ?_
        refine z_iaload dX9_shifts_46 sh_25 (by omega) (by omega) rfl ?_
        refine z_icmp_ne (tgt := 77) dX9_shifts_47 (by decide) (fun c47 => ?_) (fun c47 => ?_)
        ·
          refine z_bipush dX9_shifts_77 ⟨by decide, by decide⟩ ?_
          refine z_ret (v := some (zi _)) dX9_shifts_79 trivial (Nat.add_zero _).symm (Nat.add_zero _).symm rfl ?_
          first
            | (rw [shiC, if_pos b5, if_pos b16, if_neg (by omega), if_neg (by omega)] at hQ; exact hQ)
        ·
          refine z_aload_n dX9_shifts_50 rfl (by omega) ?_
          refine y_geto (k' := 3) fl_X9_29 rfl dX9_shifts_51 sh_1 (by decide) (gf_1_3 hg) ?_
          refine y_geta (k' := 1) fl_X9_121 rfl dX9_shifts_54 sh_24 (by decide) (gf_24_1 hg) ?_
          refine z_iload_n dX9_shifts_57 rfl ?_
          refine z_iaload dX9_shifts_58 sh_26 (by omega) (by omega) rfl ?_
          refine z_iconst dX9_shifts_59 ⟨by decide, by decide⟩ ?_
          refine z_icmp_lt (tgt := 77) dX9_shifts_60 (by decide) (fun c60 => ?_) (fun c60 => ?_)
          ·
            refine z_bipush dX9_shifts_77 ⟨by decide, by decide⟩ ?_
            refine z_ret (v := some (zi _)) dX9_shifts_79 trivial (Nat.add_zero _).symm (Nat.add_zero _).symm rfl ?_
            first
              | (rw [shiC, if_pos b5, if_pos b16, if_neg (by omega), if_neg (by omega)] at hQ; exact hQ)
          ·
            refine z_aload_n dX9_shifts_63 rfl (by omega) ?_
            refine y_geto (k' := 3) fl_X9_29 rfl dX9_shifts_64 sh_1 (by decide) (gf_1_3 hg) ?_
            refine y_geta (k' := 1) fl_X9_121 rfl dX9_shifts_67 sh_24 (by decide) (gf_24_1 hg) ?_
            refine z_iload_n dX9_shifts_70 rfl ?_
            refine z_iaload dX9_shifts_71 sh_26 (by omega) (by omega) rfl ?_
            refine z_bipush dX9_shifts_72 ⟨by decide, by decide⟩ ?_
            refine z_icmp_lt (tgt := 80) dX9_shifts_74 (by decide) (fun c74 => ?_) (fun c74 => ?_)
            ·
              refine z_aload_n dX9_shifts_80 rfl (by omega) ?_
              refine y_geto (k' := 4) fl_X9_36 rfl dX9_shifts_81 sh_1 (by decide) (gf_1_4 hg) ?_
              refine z_aload_n dX9_shifts_84 rfl (by omega) ?_
              refine y_geto (k' := 3) fl_X9_29 rfl dX9_shifts_85 sh_1 (by decide) (gf_1_3 hg) ?_
              refine z_callV (T := mX3_remember) (As := [_]) kX3_remember ml_X9_162 ⟨by decide, by decide⟩ dX9_shifts_88 rfl rfl (Nat.le_of_ble_eq_true rfl) sh_30 ⟨by decide, rfl⟩ (Nat.le_refl _) (Nat.le_refl _) (qX3_remember hg H ck.1 ck.2 ?_)
              obtain ⟨G, eG⟩ : ∃ G, rmG g h = G := ⟨_, rfl⟩
              have hgG : zGd G := eG ▸ rmG_d (h := h) hg
              have htG : G 1 1 = t := eG ▸ (rmG_1 (g := g) (h := h)).trans ht1
              clear hg ht1
              rename zGd G => hg
              rename G 1 1 = t => ht1
              rw [eG]
              clear tg4 tg5 tg6 tg7 tg8 tg9 tg10 tg11 tg12
              obtain ⟨ts0, ts1, ts2, ts3, ts4, ts5, ts6, ts7, ts8, ts9, tg4, tg5, tg6, tg7, tg8, tg9, tg10, tg11, tg12⟩ := houseF hg ht
              refine z_aload_n dX9_shifts_91 rfl (by omega) ?_
              refine y_geto (k' := 3) fl_X9_29 rfl dX9_shifts_92 sh_1 (by decide) (gf_1_3 hg) ?_
              refine y_geta (k' := 1) fl_X9_121 rfl dX9_shifts_95 sh_24 (by decide) (gf_24_1 hg) ?_
              refine z_iload_n dX9_shifts_98 rfl ?_
              refine z_dup2 dX9_shifts_99 rfl rfl ?_
              refine z_iaload dX9_shifts_100 sh_26 (by omega) (by omega) (remH_ne H ck.1 ck.2 (by omega)) ?_
              refine z_iconst dX9_shifts_101 ⟨by decide, by decide⟩ ?_
              refine y_isub dX9_shifts_102 (by omega) (by omega) ?_
              refine z_iastore dX9_shifts_103 sh_26 (by omega) (by omega) ?_
              refine z_aload_n dX9_shifts_104 rfl (by omega) ?_
              refine y_geto (k' := 3) fl_X9_29 rfl dX9_shifts_105 sh_1 (by decide) (gf_1_3 hg) ?_
              refine y_geta (k' := 1) fl_X9_121 rfl dX9_shifts_108 sh_24 (by decide) (gf_24_1 hg) ?_
              refine z_iload_n dX9_shifts_111 rfl ?_
              refine z_dup2 dX9_shifts_112 rfl rfl ?_
              refine z_iaload dX9_shifts_113 sh_26 (by omega) (by omega) ((zup_ne (by omega)).trans (remH_ne H ck.1 ck.2 (by omega))) ?_
              refine z_iconst dX9_shifts_114 ⟨by decide, by decide⟩ ?_
              refine y_iadd dX9_shifts_115 (by omega) (by omega) ?_
              refine z_iastore dX9_shifts_116 sh_26 (by omega) (by omega) ?_
              refine z_aload_n dX9_shifts_117 rfl (by omega) ?_
              refine y_geto (k' := 3) fl_X9_29 rfl dX9_shifts_118 sh_1 (by decide) (gf_1_3 hg) ?_
              refine y_geta (k' := 1) fl_X9_121 rfl dX9_shifts_121 sh_24 (by decide) (gf_24_1 hg) ?_
              refine z_iload_n dX9_shifts_124 rfl ?_
              refine z_iaload dX9_shifts_125 sh_26 (by omega) (by omega) (zup_same _ _ _ _) ?_
              refine z_ret (v := some (zi _)) dX9_shifts_126 trivial (Nat.add_zero _).symm (Nat.add_zero _).symm rfl ?_
              first
                | (rw [shiC, if_pos b5, if_pos b16, if_neg (by omega), if_pos (by omega)] at hQ; rw [eG] at hQ; exact hQ)
            ·
              refine z_bipush dX9_shifts_77 ⟨by decide, by decide⟩ ?_
              refine z_ret (v := some (zi _)) dX9_shifts_79 trivial (Nat.add_zero _).symm (Nat.add_zero _).symm rfl ?_
              first
                | (rw [shiC, if_pos b5, if_pos b16, if_neg (by omega), if_neg (by omega)] at hQ; exact hQ)
      ·
        refine z_iconst dX9_shifts_27 ⟨by decide, by decide⟩ ?_
        refine z_ret (v := some (zi _)) dX9_shifts_28 trivial (Nat.add_zero _).symm (Nat.add_zero _).symm rfl ?_
        first
          | (rw [shiC, if_neg b5] at hQ; exact hQ)
          | (rw [shiC, if_pos b5, if_neg b16] at hQ; exact hQ)
          | (rw [shiC, if_pos b5, if_pos b16, if_pos (by omega)] at hQ; exact hQ)
    ·
      refine z_if_eq (tgt := 27) dX9_shifts_19 (by decide) (fun _ => ?_) (fun q => False.elim (by omega))
      refine z_iconst dX9_shifts_27 ⟨by decide, by decide⟩ ?_
      refine z_ret (v := some (zi _)) dX9_shifts_28 trivial (Nat.add_zero _).symm (Nat.add_zero _).symm rfl ?_
      first
        | (rw [shiC, if_neg b5] at hQ; exact hQ)
        | (rw [shiC, if_pos b5, if_neg b16] at hQ; exact hQ)
        | (rw [shiC, if_pos b5, if_pos b16, if_pos (by omega)] at hQ; exact hQ)
  ·
    refine z_if_eq (tgt := 27) dX9_shifts_8 (by decide) (fun _ => ?_) (fun q => False.elim (by omega))
    refine z_iconst dX9_shifts_27 ⟨by decide, by decide⟩ ?_
    refine z_ret (v := some (zi _)) dX9_shifts_28 trivial (Nat.add_zero _).symm (Nat.add_zero _).symm rfl ?_
    first
      | (rw [shiC, if_neg b5] at hQ; exact hQ)
      | (rw [shiC, if_pos b5, if_neg b16] at hQ; exact hQ)
      | (rw [shiC, if_pos b5, if_pos b16, if_pos (by omega)] at hQ; exact hQ)
theorem qX9_undo {l : Launch} {g h : zH} {Q : zQt} {t : Int} (hg : zGd g) (ht : t = 4 ∨ t = 14) (ht1 : g 1 1 = t) (hc : CB h t) (H : HG g) (hQ : Q (some (zi (undoC g h).1)) (SHL, (undoC g h).2.1) (undoC g h).2.2) : zC l mX9_undo [zr 1] (SHL, g) h Q := by
  obtain ⟨ts0, ts1, ts2, ts3, ts4, ts5, ts6, ts7, ts8, ts9, tg4, tg5, tg6, tg7, tg8, tg9, tg10, tg11, tg12⟩ := houseF hg ht
  obtain ⟨⟨⟨m0, m1, m2, m3⟩, mp, md, mn⟩, ⟨nd, nc, nl⟩, ck, cs, cpp, cl, ct⟩ := id hc
  have t8 : 4 ≤ t ∧ t ≤ 14 := by omega
  refine z_method kX9_undo.1 rfl (Nat.le_of_ble_eq_true rfl) (fun hok hh => ?_)
  refine z_aload_n dX9_undo_0 rfl (by omega) ?_
  refine y_geto (k' := 4) fl_X9_36 rfl dX9_undo_1 sh_1 (by decide) (gf_1_4 hg) ?_
  refine y_geti (k' := 1) fl_X9_88 rfl dX9_undo_4 sh_30 (by decide) rfl ?_
  refine z_if_ne (tgt := 13) dX9_undo_7 (by decide) (fun c7 => ?_) (fun c7 => ?_)
  ·
    refine z_aload_n dX9_undo_13 rfl (by omega) ?_
    refine y_geto (k' := 4) fl_X9_36 rfl dX9_undo_14 sh_1 (by decide) (gf_1_4 hg) ?_
    refine z_aload_n dX9_undo_17 rfl (by omega) ?_
    refine y_geto (k' := 3) fl_X9_29 rfl dX9_undo_18 sh_1 (by decide) (gf_1_3 hg) ?_
    refine z_callV (T := mX3_takeBack) (As := [_]) kX3_takeBack ml_X9_193 ⟨by decide, by decide⟩ dX9_undo_21 rfl rfl (Nat.le_of_ble_eq_true rfl) sh_30 ⟨by decide, rfl⟩ (Nat.le_refl _) (Nat.le_refl _) (qX3_takeBack hg H (by omega) (by omega) ?_)
    refine z_aload_n dX9_undo_24 rfl (by omega) ?_
    refine y_geto (k' := 4) fl_X9_36 rfl dX9_undo_25 sh_1 (by decide) (gf_1_4 hg) ?_
    refine y_geti (k' := 1) fl_X9_88 rfl dX9_undo_28 sh_30 (by decide) ((CPN_ne (by omega)).trans (zup_same _ _ _ _)) ?_
    refine z_ret (v := some (zi _)) dX9_undo_31 trivial (Nat.add_zero _).symm (Nat.add_zero _).symm rfl ?_
    first
      | (rw [undoC, if_neg (by omega)] at hQ; exact hQ)
  ·
    refine z_bipush dX9_undo_10 ⟨by decide, by decide⟩ ?_
    refine z_ret (v := some (zi _)) dX9_undo_12 trivial (Nat.add_zero _).symm (Nat.add_zero _).symm rfl ?_
    first
      | (rw [undoC, if_pos (by omega)] at hQ; exact hQ)
def szC (h : zH) (s : Int) (n : Nat) : zH := fun a b => if a = 26 ∧ 0 ≤ b ∧ b < n ∧ hasb s b then 0 else h a b
theorem szC_0 (h : zH) (s : Int) : szC h s 0 = h := by
  funext a b
  have c : ¬ (a = 26 ∧ 0 ≤ b ∧ b < ((0 : Nat) : Int) ∧ hasb s b) := fun q => by have := q.2.1; have := q.2.2.1; omega
  exact if_neg c
theorem szC_ne {h : zH} {s a b : Int} {n : Nat} (ha : a ≠ 26) : szC h s n a b = h a b := if_neg (fun q => ha q.1)
theorem szC_t {h : zH} {s : Int} {n : Nat} (e : hasb s n) : zup (szC h s n) 26 n 0 = szC h s (n + 1) := by
  funext a b
  by_cases c : a = 26 ∧ b = n
  · obtain ⟨rfl, rfl⟩ := c
    rw [zup_same]
    exact (if_pos ⟨rfl, by omega, by omega, e⟩).symm
  · rw [zup_ne c]
    unfold szC
    by_cases c1 : a = 26 ∧ 0 ≤ b ∧ b < (n : Int) ∧ hasb s b
    · have c2 : a = 26 ∧ 0 ≤ b ∧ b < ((n + 1 : Nat) : Int) ∧ hasb s b := ⟨c1.1, c1.2.1, by have := c1.2.2.1; omega, c1.2.2.2⟩
      rw [if_pos c1, if_pos c2]
    · have c2 : ¬ (a = 26 ∧ 0 ≤ b ∧ b < ((n + 1 : Nat) : Int) ∧ hasb s b) := fun q => by
        have q1 := q.1; have q2 := q.2.1; have q3 := q.2.2.1
        exact c1 ⟨q1, q2, by omega, q.2.2.2⟩
      rw [if_neg c1, if_neg c2]
theorem szC_f {h : zH} {s : Int} {n : Nat} (e : ¬ hasb s n) : szC h s n = szC h s (n + 1) := by
  funext a b
  unfold szC
  by_cases c1 : a = 26 ∧ 0 ≤ b ∧ b < (n : Int) ∧ hasb s b
  · have c2 : a = 26 ∧ 0 ≤ b ∧ b < ((n + 1 : Nat) : Int) ∧ hasb s b := ⟨c1.1, c1.2.1, by have := c1.2.2.1; omega, c1.2.2.2⟩
    rw [if_pos c1, if_pos c2]
  · have c2 : ¬ (a = 26 ∧ 0 ≤ b ∧ b < ((n + 1 : Nat) : Int) ∧ hasb s b) := fun q => by
      have q1 := q.1; have q2 := q.2.1; have q3 := q.2.2.1
      by_cases z : b = n
      · exact e (z ▸ q.2.2.2)
      · exact c1 ⟨q1, q2, by omega, q.2.2.2⟩
    rw [if_neg c1, if_neg c2]
theorem sprC_congr {h h' : zH} {t : Int} (e : ∀ a b, t ≤ a → a ≤ t + 9 → h' a b = h a b) (s : Int) : sprC h' t s = sprC h t s := by
  have e0 := fun b => e t b (by omega) (by omega)
  have e1 := fun b => e (t + 8) b (by omega) (by omega)
  have e2 := fun b => e (t + 6) b (by omega) (by omega)
  unfold sprC friC graC
  simp only [e0, e1, e2]
def callsC (g h : zH) (t r : Int) : Int × zH × zH := if 0 ≤ r ∧ r < h t 0 then (if band (inC h t r) (bxor (h 24 5) (-1)) = 0 then (-2, g, h) else (sprC h t (bor (h 24 5) (inC h t r)), rmG g h, szC (zup (remH g h) 24 5 (sprC h t (bor (h 24 5) (inC h t r)))) (sprC h t (bor (h 24 5) (inC h t r))) (h t 2).toNat)) else (-1, g, h)
theorem inC_r {h : zH} {t : Int} (m2 : 0 ≤ h t 2 ∧ h t 2 ≤ 6) (r : Int) : 0 ≤ inC h t r ∧ inC h t r < pw (h t 2) := by
  have a := bset_r (f := fun d => decide (h 25 d = r)) (h t 2).toNat (by omega)
  unfold inC
  rw [show ((h t 2).toNat : Int) = h t 2 by omega] at a
  exact a
theorem lpX9_calls {l : Launch} {g h : zH} {Q : zQt} {t r x2 s : Int} (hg : zGd g) (ht : t = 4 ∨ t = 14) (ht1 : g 1 1 = t) (m2 : 0 ≤ h t 2 ∧ h t 2 ≤ 6) (es : h 24 5 = s) (K : zW zX0 l mX9_calls ((SHL, g).1.length + zmc mX9_calls) (ztot (SHL, g) + zms mX9_calls) Q 113 [some (zr 1), some (zi r), some (zi x2), some (zi (((h t 2).toNat : Nat) : Int))] [] (SHL, g) (szC h s ((h t 2).toNat))) : ∀ (n i : Nat), i + n = (h t 2).toNat → zW zX0 l mX9_calls ((SHL, g).1.length + zmc mX9_calls) (ztot (SHL, g) + zms mX9_calls) Q 72 [some (zr 1), some (zi r), some (zi x2), some (zi (i : Int))] [] (SHL, g) (szC h s i) := by
  obtain ⟨ts0, ts1, ts2, ts3, ts4, ts5, ts6, ts7, ts8, ts9, tg4, tg5, tg6, tg7, tg8, tg9, tg10, tg11, tg12⟩ := houseF hg ht
  intro n
  induction n with
  | zero =>
    intro i hi 
    have e9 : i = (h t 2).toNat := by omega
    subst e9
    refine z_iload_n dX9_calls_72 rfl ?_
    refine z_aload_n dX9_calls_73 rfl (by omega) ?_
    refine y_geto (k' := 1) fl_X9_19 rfl dX9_calls_74 sh_1 (by decide) ht1 ?_
    refine y_geti (k' := 2) fl_X9_187 rfl dX9_calls_77 ts0 (by decide) (szC_ne (by omega)) ?_
    refine z_icmp_ge (tgt := 113) dX9_calls_80 (by decide) (fun _ => ?_) (fun q => False.elim (by omega))
    exact K
  | succ n ih =>
    intro i hi 
    refine z_iload_n dX9_calls_72 rfl ?_
    refine z_aload_n dX9_calls_73 rfl (by omega) ?_
    refine y_geto (k' := 1) fl_X9_19 rfl dX9_calls_74 sh_1 (by decide) ht1 ?_
    refine y_geti (k' := 2) fl_X9_187 rfl dX9_calls_77 ts0 (by decide) (szC_ne (by omega)) ?_
    refine z_icmp_ge (tgt := 113) dX9_calls_80 (by decide) (fun q => False.elim (by omega)) (fun _ => ?_)
    refine z_aload_n dX9_calls_83 rfl (by omega) ?_
    refine y_geto (k' := 3) fl_X9_29 rfl dX9_calls_84 sh_1 (by decide) (gf_1_3 hg) ?_
    refine y_geti (k' := 5) fl_X9_181 rfl dX9_calls_87 sh_24 (by decide) ((szC_ne (by omega)).trans es) ?_
    refine z_iload_n dX9_calls_90 rfl ?_
    refine z_callS (T := mX9_has) (As := [_, _]) kX9_has ml_X9_190 ⟨by decide, by decide⟩ dX9_calls_91 rfl rfl (Nat.le_of_ble_eq_true rfl) (Nat.le_refl _) (Nat.le_refl _) (qX9_has (fun b91 => ?_) (fun b91 => ?_))
    ·
      refine z_if_eq (tgt := 107) dX9_calls_94 (by decide) (fun q => False.elim (by omega)) (fun _ => ?_)
      refine z_aload_n dX9_calls_97 rfl (by omega) ?_
      refine y_geto (k' := 3) fl_X9_29 rfl dX9_calls_98 sh_1 (by decide) (gf_1_3 hg) ?_
      refine y_geta (k' := 1) fl_X9_121 rfl dX9_calls_101 sh_24 (by decide) (gf_24_1 hg) ?_
      refine z_iload_n dX9_calls_104 rfl ?_
      refine z_iconst dX9_calls_105 ⟨by decide, by decide⟩ ?_
      refine z_iastore dX9_calls_106 sh_26 (by omega) (by omega) ?_
      refine y_iinc dX9_calls_107 (by decide) rfl rfl (by omega) (by omega) lss_4_3 ?_
      refine z_goto (tgt := 72) dX9_calls_110 (by decide) ?_
      have q := ih (i + 1) (by omega)
      first
        | (rw [szC_t b91]; exact q)
        | (rw [← szC_f b91] at q; exact q)
    ·
      refine z_if_eq (tgt := 107) dX9_calls_94 (by decide) (fun _ => ?_) (fun q => False.elim (by omega))
      refine y_iinc dX9_calls_107 (by decide) rfl rfl (by omega) (by omega) lss_4_3 ?_
      refine z_goto (tgt := 72) dX9_calls_110 (by decide) ?_
      have q := ih (i + 1) (by omega)
      first
        | (rw [szC_t b91]; exact q)
        | (rw [← szC_f b91] at q; exact q)
set_option maxHeartbeats 2000000 in
theorem qX9_calls {l : Launch} {g h : zH} {Q : zQt} {t : Int} (hg : zGd g) (ht : t = 4 ∨ t = 14) (ht1 : g 1 1 = t) (hc : CB h t) (H : HG g) {r : Int} (hQ : Q (some (zi (callsC g h t r).1)) (SHL, (callsC g h t r).2.1) (callsC g h t r).2.2) : zC l mX9_calls [zr 1, zi r] (SHL, g) h Q := by
  obtain ⟨ts0, ts1, ts2, ts3, ts4, ts5, ts6, ts7, ts8, ts9, tg4, tg5, tg6, tg7, tg8, tg9, tg10, tg11, tg12⟩ := houseF hg ht
  obtain ⟨⟨⟨m0, m1, m2, m3⟩, mp, md, mn⟩, ⟨nd, nc, nl⟩, ck, cs, cpp, cl, ct⟩ := id hc
  have t8 : 4 ≤ t ∧ t ≤ 14 := by omega
  refine z_method kX9_calls.1 rfl (Nat.le_of_ble_eq_true rfl) (fun hok hh => ?_)
  have ir := inC_r m2 r
  have p1 := pw_le (n := h t 2) (by omega)
  have br := bor_r (h 24 5) (inC h t r) (h t 2) nl.1 (by omega) (by omega) (by omega) (by omega) (by omega)
  have br2 := br.2.2 nl.2 ir.2
  refine z_aload_n dX9_calls_0 rfl (by omega) ?_
  refine y_geto (k' := 1) fl_X9_19 rfl dX9_calls_1 sh_1 (by decide) ht1 ?_
  refine z_iload_n dX9_calls_4 rfl ?_
  refine z_callV (T := mX4_hasRoom) (As := [_]) kX4_hasRoom ml_X9_175 ⟨by decide, by decide⟩ dX9_calls_5 rfl rfl (Nat.le_of_ble_eq_true rfl) ts0 ⟨by decide, rfl⟩ (Nat.le_refl _) (Nat.le_refl _) (qX4_hasRoom hg ht (fun b5 => ?_) (fun b5 => ?_))
  ·
    refine z_if_ne (tgt := 13) dX9_calls_8 (by decide) (fun _ => ?_) (fun q => False.elim (by omega))
    refine z_aload_n dX9_calls_13 rfl (by omega) ?_
    refine z_iload_n dX9_calls_14 rfl ?_
    refine z_callV (T := mX9_whoIsIn) (As := [_]) kX9_whoIsIn ml_X9_178 ⟨by decide, by decide⟩ dX9_calls_15 rfl rfl (Nat.le_of_ble_eq_true rfl) sh_1 ⟨by decide, rfl⟩ (Nat.le_refl _) (Nat.le_refl _) (qX9_whoIsIn hg ht ht1 hc ?_)
    refine z_istore_n dX9_calls_18 (by decide) rfl lss_4_2 ?_
    refine z_iload_n dX9_calls_19 rfl ?_
    refine z_aload_n dX9_calls_20 rfl (by omega) ?_
    refine y_geto (k' := 3) fl_X9_29 rfl dX9_calls_21 sh_1 (by decide) (gf_1_3 hg) ?_
    refine y_geti (k' := 5) fl_X9_181 rfl dX9_calls_24 sh_24 (by decide) rfl ?_
    refine z_iconst dX9_calls_27 ⟨by decide, by decide⟩ ?_
    refine z_ixor dX9_calls_28 ?_
    refine z_iand dX9_calls_29 ?_
    refine z_if_ne (tgt := 36) dX9_calls_30 (by decide) (fun c30 => ?_) (fun c30 => ?_)
    ·
      refine z_aload_n dX9_calls_36 rfl (by omega) ?_
      refine y_geto (k' := 4) fl_X9_36 rfl dX9_calls_37 sh_1 (by decide) (gf_1_4 hg) ?_
      refine z_aload_n dX9_calls_40 rfl (by omega) ?_
      refine y_geto (k' := 3) fl_X9_29 rfl dX9_calls_41 sh_1 (by decide) (gf_1_3 hg) ?_
      refine z_callV (T := mX3_remember) (As := [_]) kX3_remember ml_X9_162 ⟨by decide, by decide⟩ dX9_calls_44 rfl rfl (Nat.le_of_ble_eq_true rfl) sh_30 ⟨by decide, rfl⟩ (Nat.le_refl _) (Nat.le_refl _) (qX3_remember hg H ck.1 ck.2 ?_)
      obtain ⟨G, eG⟩ : ∃ G, rmG g h = G := ⟨_, rfl⟩
      have hgG : zGd G := eG ▸ rmG_d (h := h) hg
      have htG : G 1 1 = t := eG ▸ (rmG_1 (g := g) (h := h)).trans ht1
      clear hg ht1
      rename zGd G => hg
      rename G 1 1 = t => ht1
      rw [eG]
      clear tg4 tg5 tg6 tg7 tg8 tg9 tg10 tg11 tg12
      obtain ⟨ts0, ts1, ts2, ts3, ts4, ts5, ts6, ts7, ts8, ts9, tg4, tg5, tg6, tg7, tg8, tg9, tg10, tg11, tg12⟩ := houseF hg ht
      refine z_aload_n dX9_calls_47 rfl (by omega) ?_
      refine y_geto (k' := 3) fl_X9_29 rfl dX9_calls_48 sh_1 (by decide) (gf_1_3 hg) ?_
      refine z_aload_n dX9_calls_51 rfl (by omega) ?_
      refine y_geto (k' := 1) fl_X9_19 rfl dX9_calls_52 sh_1 (by decide) ht1 ?_
      refine z_aload_n dX9_calls_55 rfl (by omega) ?_
      refine y_geto (k' := 3) fl_X9_29 rfl dX9_calls_56 sh_1 (by decide) (gf_1_3 hg) ?_
      refine y_geti (k' := 5) fl_X9_181 rfl dX9_calls_59 sh_24 (by decide) (remH_ne H ck.1 ck.2 (by omega)) ?_
      refine z_iload_n dX9_calls_62 rfl ?_
      refine z_ior dX9_calls_63 ?_
      refine z_callV (T := mX4_laughFrom) (As := [_]) kX4_laughFrom ml_X9_184 ⟨by decide, by decide⟩ dX9_calls_64 rfl rfl (Nat.le_of_ble_eq_true rfl) ts0 ⟨by decide, rfl⟩ (Nat.le_refl _) (Nat.le_refl _) (qX4_laughFrom hg ht (HB_congr (fun a b _ _ => remH_ne H ck.1 ck.2 (by omega)) hc.1) (by omega) (by rw [remH_ne H ck.1 ck.2 (by omega)]; omega) ?_)
      rw [sprC_congr (fun a b _ _ => remH_ne H ck.1 ck.2 (by omega))]
      refine y_puti (k' := 5) fl_X9_181 rfl dX9_calls_67 sh_24 (by decide)  ?_
      refine z_iconst dX9_calls_70 ⟨by decide, by decide⟩ ?_
      refine z_istore_n dX9_calls_71 (by decide) rfl lss_4_3 ?_
      rw [callsC, if_pos b5, if_neg (by omega), eG] at hQ
      have K := lpX9_calls (l := l) (Q := Q) (r := r) (x2 := inC h t r) (h := zup (remH g h) 24 5 (sprC h t (bor (h 24 5) (inC h t r)))) hg ht ht1 (by rw [zup_ne (by omega), remH_ne H ck.1 ck.2 (by omega)]; exact m2) (zup_same _ _ _ _) (by
        rw [zup_ne (show ¬ (t = 24 ∧ (2 : Int) = 5) by omega), remH_ne H ck.1 ck.2 (by omega)]
        refine z_aload_n dX9_calls_113 rfl (by omega) ?_
        refine y_geto (k' := 3) fl_X9_29 rfl dX9_calls_114 sh_1 (by decide) (gf_1_3 hg) ?_
        refine y_geti (k' := 5) fl_X9_181 rfl dX9_calls_117 sh_24 (by decide) ((szC_ne (by omega)).trans (zup_same _ _ _ _)) ?_
        refine z_ret (v := some (zi _)) dX9_calls_120 trivial (Nat.add_zero _).symm (Nat.add_zero _).symm rfl ?_
        exact hQ) _ 0 (Nat.zero_add _)
      rw [szC_0] at K
      exact K
    ·
      refine z_bipush dX9_calls_33 ⟨by decide, by decide⟩ ?_
      refine z_ret (v := some (zi _)) dX9_calls_35 trivial (Nat.add_zero _).symm (Nat.add_zero _).symm rfl ?_
      first
        | (rw [callsC, if_pos b5, if_pos (by omega)] at hQ; exact hQ)
  ·
    refine z_if_ne (tgt := 13) dX9_calls_8 (by decide) (fun q => False.elim (by omega)) (fun _ => ?_)
    refine z_iconst dX9_calls_11 ⟨by decide, by decide⟩ ?_
    refine z_ret (v := some (zi _)) dX9_calls_12 trivial (Nat.add_zero _).symm (Nat.add_zero _).symm rfl ?_
    first
      | (rw [callsC, if_neg b5] at hQ; exact hQ)
def hcp (g h : zH) (d s : Int) : Nat → zH
  | 0 => h
  | i + 1 => CPN (hcp g h d s i) (g (d + 1) i) (g (s + 1) i)
theorem hcp_ne {g h : zH} {d s a b : Int} : ∀ n : Nat, (∀ i : Int, 0 ≤ i → i < n → (a < g (d + 1) i ∨ g (d + 1) i + 5 < a)) → hcp g h d s n a b = h a b := by
  intro n
  induction n with
  | zero => intro _; rfl
  | succ n ih =>
    intro hn
    show CPN (hcp g h d s n) (g (d + 1) n) (g (s + 1) n) a b = _
    rw [CPN_ne (hn n (by omega) (by omega)), ih (fun i i0 i1 => hn i i0 (by omega))]
theorem lpX3_copy {l : Launch} {g h : zH} {Q : zQt} {d s k : Int} (hg : zGd g) (ds0 : zsh (SHL, g) d = some (2, 2)) (ds1 : zsh (SHL, g) (d + 1) = some (102, 10)) (dg0 : g d 0 = d + 1) (ss0 : zsh (SHL, g) s = some (2, 2)) (ss1 : zsh (SHL, g) (s + 1) = some (102, 10)) (sg0 : g s 0 = s + 1) (d9 : 0 < d) (s9 : 0 < s) (hN : ∀ i : Int, 0 ≤ i → i < 10 → g (d + 1) i ∈ NOWS ∧ g (s + 1) i ∈ NOWS ∧ sep (g (d + 1) i) (g (s + 1) i) ∧ (d < g (d + 1) i ∨ g (d + 1) i + 5 < d)) (ek : h d 1 = k) (k0 : 0 ≤ k) (k1 : k ≤ 10) (K : zW zX0 l mX3_copyFrom ((SHL, g).1.length + zmc mX3_copyFrom) (ztot (SHL, g) + zms mX3_copyFrom) Q 39 [some (zr d), some (zr s), some (zi ((k.toNat : Nat) : Int))] [] (SHL, g) (hcp g h d s (k.toNat))) : ∀ (n i : Nat), i + n = k.toNat → zW zX0 l mX3_copyFrom ((SHL, g).1.length + zmc mX3_copyFrom) (ztot (SHL, g) + zms mX3_copyFrom) Q 10 [some (zr d), some (zr s), some (zi (i : Int))] [] (SHL, g) (hcp g h d s i) := by
  intro n
  induction n with
  | zero =>
    intro i hi 
    have e9 : i = k.toNat := by omega
    subst e9
    refine z_iload_n dX3_copyFrom_10 rfl ?_
    refine z_aload_n dX3_copyFrom_11 rfl (by omega) ?_
    refine y_geti (k' := 1) fl_X3_18 rfl dX3_copyFrom_12 ds0 (by decide) ((hcp_ne _ (fun j j0 j1 => (hN j j0 (by omega)).2.2.2)).trans ek) ?_
    refine z_icmp_ge (tgt := 39) dX3_copyFrom_15 (by decide) (fun _ => ?_) (fun q => False.elim (by omega))
    exact K
  | succ n ih =>
    intro i hi 
    have n1 := hN i (by omega) (by omega)
    have n9 := NOWS_pos n1.1
    have m9 := NOWS_pos n1.2.1
    have ns0 : zsh (SHL, g) (g (d + 1) i) = some (5, 6) := (nowFa hg n1.1).1
    have ms0 : zsh (SHL, g) (g (s + 1) i) = some (5, 6) := (nowFa hg n1.2.1).1
    refine z_iload_n dX3_copyFrom_10 rfl ?_
    refine z_aload_n dX3_copyFrom_11 rfl (by omega) ?_
    refine y_geti (k' := 1) fl_X3_18 rfl dX3_copyFrom_12 ds0 (by decide) ((hcp_ne _ (fun j j0 j1 => (hN j j0 (by omega)).2.2.2)).trans ek) ?_
    refine z_icmp_ge (tgt := 39) dX3_copyFrom_15 (by decide) (fun q => False.elim (by omega)) (fun _ => ?_)
    refine z_aload_n dX3_copyFrom_18 rfl (by omega) ?_
    refine y_geta (k' := 0) fl_X3_11 rfl dX3_copyFrom_19 ds0 (by decide) dg0 ?_
    refine z_iload_n dX3_copyFrom_22 rfl ?_
    refine z_naload dX3_copyFrom_23 ds1 (by omega) (by omega) (show (SHL, g).2 (d + 1) i = g (d + 1) i from rfl) ?_
    refine z_aload_n dX3_copyFrom_24 rfl (by omega) ?_
    refine y_geta (k' := 0) fl_X3_11 rfl dX3_copyFrom_25 ss0 (by decide) sg0 ?_
    refine z_iload_n dX3_copyFrom_28 rfl ?_
    refine z_naload dX3_copyFrom_29 ss1 (by omega) (by omega) (show (SHL, g).2 (s + 1) i = g (s + 1) i from rfl) ?_
    refine z_callV (T := mX6_copyFrom) (As := [_]) kX6_copyFrom ml_X3_25 ⟨by decide, by decide⟩ dX3_copyFrom_30 rfl rfl (Nat.le_of_ble_eq_true rfl) ns0 ⟨by decide, rfl⟩ (Nat.le_refl _) (Nat.le_refl _) (qX6_copyFrom hg n1.1 n1.2.1 n1.2.2.1 ?_)
    refine y_iinc dX3_copyFrom_33 (by decide) rfl rfl (by omega) (by omega) lss_3_2 ?_
    refine z_goto (tgt := 10) dX3_copyFrom_36 (by decide) ?_
    exact ih (i + 1) (by omega)
theorem qX3_copyFrom {l : Launch} {g h : zH} {Q : zQt} (hg : zGd g) {d s k : Int} (ds0 : zsh (SHL, g) d = some (2, 2)) (ds1 : zsh (SHL, g) (d + 1) = some (102, 10)) (dg0 : g d 0 = d + 1) (ss0 : zsh (SHL, g) s = some (2, 2)) (ss1 : zsh (SHL, g) (s + 1) = some (102, 10)) (sg0 : g s 0 = s + 1) (d9 : 0 < d) (s9 : 0 < s) (hN : ∀ i : Int, 0 ≤ i → i < 10 → g (d + 1) i ∈ NOWS ∧ g (s + 1) i ∈ NOWS ∧ sep (g (d + 1) i) (g (s + 1) i) ∧ (d < g (d + 1) i ∨ g (d + 1) i + 5 < d)) (ek : h s 1 = k) (k0 : 0 ≤ k) (k1 : k ≤ 10) (hQ : Q none (SHL, g) (hcp g (zup h d 1 k) d s k.toNat)) : zC l mX3_copyFrom [zr d, zr s] (SHL, g) h Q := by
  refine z_method kX3_copyFrom.1 rfl (Nat.le_of_ble_eq_true rfl) (fun hok hh => ?_)
  refine z_aload_n dX3_copyFrom_0 rfl (by omega) ?_
  refine z_aload_n dX3_copyFrom_1 rfl (by omega) ?_
  refine y_geti (k' := 1) fl_X3_18 rfl dX3_copyFrom_2 ss0 (by decide) ek ?_
  refine y_puti (k' := 1) fl_X3_18 rfl dX3_copyFrom_5 ds0 (by decide)  ?_
  refine z_iconst dX3_copyFrom_8 ⟨by decide, by decide⟩ ?_
  refine z_istore_n dX3_copyFrom_9 (by decide) rfl lss_3_2 ?_
  refine lpX3_copy (l := l) (k := k) hg ds0 ds1 dg0 ss0 ss1 sg0 d9 s9 hN (zup_same _ _ _ _) k0 k1 ?_ _ 0 (Nat.zero_add _)
  refine z_ret (v := none) dX3_copyFrom_39 trivial (Nat.add_zero _).symm (Nat.add_zero _).symm rfl ?_
  exact hQ
theorem img_g {g : zH} (hg : zGd g) {a : Int} (ha : a = 110 ∨ a = 179) {i : Int} (i0 : 0 ≤ i) (i1 : i < 10) : g a i = a + 1 + 6 * i := by
  have : i = 0 ∨ i = 1 ∨ i = 2 ∨ i = 3 ∨ i = 4 ∨ i = 5 ∨ i = 6 ∨ i = 7 ∨ i = 8 ∨ i = 9 := by omega
  rcases ha with rfl | rfl
  · rcases this with rfl | rfl | rfl | rfl | rfl | rfl | rfl | rfl | rfl | rfl
    · exact gf_110_0 hg
    · exact gf_110_1 hg
    · exact gf_110_2 hg
    · exact gf_110_3 hg
    · exact gf_110_4 hg
    · exact gf_110_5 hg
    · exact gf_110_6 hg
    · exact gf_110_7 hg
    · exact gf_110_8 hg
    · exact gf_110_9 hg
  · rcases this with rfl | rfl | rfl | rfl | rfl | rfl | rfl | rfl | rfl | rfl
    · exact gf_179_0 hg
    · exact gf_179_1 hg
    · exact gf_179_2 hg
    · exact gf_179_3 hg
    · exact gf_179_4 hg
    · exact gf_179_5 hg
    · exact gf_179_6 hg
    · exact gf_179_7 hg
    · exact gf_179_8 hg
    · exact gf_179_9 hg
theorem img_in {a i : Int} (ha : a = 110 ∨ a = 179) (i0 : 0 ≤ i) (i1 : i < 10) : a + 1 + 6 * i ∈ NOWS := by
  have : i = 0 ∨ i = 1 ∨ i = 2 ∨ i = 3 ∨ i = 4 ∨ i = 5 ∨ i = 6 ∨ i = 7 ∨ i = 8 ∨ i = 9 := by omega
  rcases ha with rfl | rfl <;> rcases this with rfl | rfl | rfl | rfl | rfl | rfl | rfl | rfl | rfl | rfl <;> decide
def takeH (g h : zH) (I : Int) : zH := zup (hcp g (zup (CPN h (I + 1) 24) (I + 7) 1 (h 30 1)) (I + 7) 30 (h 30 1).toNat) I 2 1
def giveH (g h : zH) (I : Int) : zH := hcp g (zup (CPN h 24 (I + 1)) 30 1 (h (I + 7) 1)) 30 (I + 7) (h (I + 7) 1).toNat
theorem qX5_take_102 {l : Launch} {g h : zH} {Q : zQt} (hg : zGd g) (H : HG g) (k0 : 0 ≤ h 30 1) (k1 : h 30 1 ≤ 10) (hQ : Q none (SHL, g) (takeH g h 102)) : zC l mX5_take [zr 102, zr 24, zr 30] (SHL, g) h Q := by
  refine z_method kX5_take.1 rfl (Nat.le_of_ble_eq_true rfl) (fun hok hh => ?_)
  have hN : ∀ i : Int, 0 ≤ i → i < 10 → g (109 + 1) i ∈ NOWS ∧ g (30 + 1) i ∈ NOWS ∧ sep (g (109 + 1) i) (g (30 + 1) i) ∧ (109 < g (109 + 1) i ∨ g (109 + 1) i + 5 < 109) := (fun i i0 i1 => by
    have e : g (109 + 1) i = 110 + 1 + 6 * i := img_g hg (by decide) i0 i1
    have r := H.rg i0 i1
    have m := H.mem i0 i1
    rw [e]
    exact ⟨img_in (by decide) i0 i1, m, show sep _ (g 31 i) by unfold sep; omega, by omega⟩)
  refine z_aload_n dX5_take_0 rfl (by omega) ?_
  refine y_geto (k' := 0) fl_X5_10 rfl dX5_take_1 sh_102 (by decide) (gf_102_0 hg) ?_
  refine z_aload_n dX5_take_4 rfl (by omega) ?_
  refine z_callV (T := mX6_copyFrom) (As := [_]) kX6_copyFrom ml_X5_23 ⟨by decide, by decide⟩ dX5_take_5 rfl rfl (Nat.le_of_ble_eq_true rfl) sh_103 ⟨by decide, rfl⟩ (Nat.le_refl _) (Nat.le_refl _) (qX6_copyFrom hg (by decide) (by decide) (by unfold sep; omega) ?_)
  refine z_aload_n dX5_take_8 rfl (by omega) ?_
  refine y_geto (k' := 1) fl_X5_19 rfl dX5_take_9 sh_102 (by decide) (gf_102_1 hg) ?_
  refine z_aload_n dX5_take_12 rfl (by omega) ?_
  refine z_callV (T := mX3_copyFrom) (As := [_]) kX3_copyFrom ml_X5_27 ⟨by decide, by decide⟩ dX5_take_13 rfl rfl (Nat.le_of_ble_eq_true rfl) sh_109 ⟨by decide, rfl⟩ (Nat.le_refl _) (Nat.le_refl _) (qX3_copyFrom (k := h 30 1) hg sh_109 sh_110 (gf_109_0 hg) sh_30 sh_31 (gf_30_0 hg) (by decide) (by decide) hN (CPN_ne (by omega)) k0 k1 ?_)
  refine z_aload_n dX5_take_16 rfl (by omega) ?_
  refine z_iconst dX5_take_17 ⟨by decide, by decide⟩ ?_
  refine y_putz (k' := 2) fl_X5_30 rfl dX5_take_18 sh_102 (by decide) (by omega) ?_
  refine z_ret (v := none) dX5_take_21 trivial (Nat.add_zero _).symm (Nat.add_zero _).symm rfl ?_
  exact hQ
theorem qX5_give_102 {l : Launch} {g h : zH} {Q : zQt} (hg : zGd g) (H : HG g) (k0 : 0 ≤ h 109 1) (k1 : h 109 1 ≤ 10) (hQ : Q none (SHL, g) (giveH g h 102)) : zC l mX5_give [zr 102, zr 24, zr 30] (SHL, g) h Q := by
  refine z_method kX5_give.1 rfl (Nat.le_of_ble_eq_true rfl) (fun hok hh => ?_)
  have hN : ∀ i : Int, 0 ≤ i → i < 10 → g (30 + 1) i ∈ NOWS ∧ g (109 + 1) i ∈ NOWS ∧ sep (g (30 + 1) i) (g (109 + 1) i) ∧ (30 < g (30 + 1) i ∨ g (30 + 1) i + 5 < 30) := (fun i i0 i1 => by
    have e : g (109 + 1) i = 110 + 1 + 6 * i := img_g hg (by decide) i0 i1
    have r := H.rg i0 i1
    have m := H.mem i0 i1
    rw [e]
    exact ⟨m, img_in (by decide) i0 i1, show sep (g 31 i) _ by unfold sep; omega, show 30 < g 31 i ∨ g 31 i + 5 < 30 by omega⟩)
  refine z_aload_n dX5_give_0 rfl (by omega) ?_
  refine z_aload_n dX5_give_1 rfl (by omega) ?_
  refine y_geto (k' := 0) fl_X5_10 rfl dX5_give_2 sh_102 (by decide) (gf_102_0 hg) ?_
  refine z_callV (T := mX6_copyFrom) (As := [_]) kX6_copyFrom ml_X5_23 ⟨by decide, by decide⟩ dX5_give_5 rfl rfl (Nat.le_of_ble_eq_true rfl) sh_24 ⟨by decide, rfl⟩ (Nat.le_refl _) (Nat.le_refl _) (qX6_copyFrom hg (by decide) (by decide) (by unfold sep; omega) ?_)
  refine z_aload_n dX5_give_8 rfl (by omega) ?_
  refine z_aload_n dX5_give_9 rfl (by omega) ?_
  refine y_geto (k' := 1) fl_X5_19 rfl dX5_give_10 sh_102 (by decide) (gf_102_1 hg) ?_
  refine z_callV (T := mX3_copyFrom) (As := [_]) kX3_copyFrom ml_X5_27 ⟨by decide, by decide⟩ dX5_give_13 rfl rfl (Nat.le_of_ble_eq_true rfl) sh_30 ⟨by decide, rfl⟩ (Nat.le_refl _) (Nat.le_refl _) (qX3_copyFrom (k := h 109 1) hg sh_30 sh_31 (gf_30_0 hg) sh_109 sh_110 (gf_109_0 hg) (by decide) (by decide) hN (CPN_ne (by omega)) k0 k1 ?_)
  refine z_ret (v := none) dX5_give_16 trivial (Nat.add_zero _).symm (Nat.add_zero _).symm rfl ?_
  exact hQ
theorem qX5_take_171 {l : Launch} {g h : zH} {Q : zQt} (hg : zGd g) (H : HG g) (k0 : 0 ≤ h 30 1) (k1 : h 30 1 ≤ 10) (hQ : Q none (SHL, g) (takeH g h 171)) : zC l mX5_take [zr 171, zr 24, zr 30] (SHL, g) h Q := by
  refine z_method kX5_take.1 rfl (Nat.le_of_ble_eq_true rfl) (fun hok hh => ?_)
  have hN : ∀ i : Int, 0 ≤ i → i < 10 → g (178 + 1) i ∈ NOWS ∧ g (30 + 1) i ∈ NOWS ∧ sep (g (178 + 1) i) (g (30 + 1) i) ∧ (178 < g (178 + 1) i ∨ g (178 + 1) i + 5 < 178) := (fun i i0 i1 => by
    have e : g (178 + 1) i = 179 + 1 + 6 * i := img_g hg (by decide) i0 i1
    have r := H.rg i0 i1
    have m := H.mem i0 i1
    rw [e]
    exact ⟨img_in (by decide) i0 i1, m, show sep _ (g 31 i) by unfold sep; omega, by omega⟩)
  refine z_aload_n dX5_take_0 rfl (by omega) ?_
  refine y_geto (k' := 0) fl_X5_10 rfl dX5_take_1 sh_171 (by decide) (gf_171_0 hg) ?_
  refine z_aload_n dX5_take_4 rfl (by omega) ?_
  refine z_callV (T := mX6_copyFrom) (As := [_]) kX6_copyFrom ml_X5_23 ⟨by decide, by decide⟩ dX5_take_5 rfl rfl (Nat.le_of_ble_eq_true rfl) sh_172 ⟨by decide, rfl⟩ (Nat.le_refl _) (Nat.le_refl _) (qX6_copyFrom hg (by decide) (by decide) (by unfold sep; omega) ?_)
  refine z_aload_n dX5_take_8 rfl (by omega) ?_
  refine y_geto (k' := 1) fl_X5_19 rfl dX5_take_9 sh_171 (by decide) (gf_171_1 hg) ?_
  refine z_aload_n dX5_take_12 rfl (by omega) ?_
  refine z_callV (T := mX3_copyFrom) (As := [_]) kX3_copyFrom ml_X5_27 ⟨by decide, by decide⟩ dX5_take_13 rfl rfl (Nat.le_of_ble_eq_true rfl) sh_178 ⟨by decide, rfl⟩ (Nat.le_refl _) (Nat.le_refl _) (qX3_copyFrom (k := h 30 1) hg sh_178 sh_179 (gf_178_0 hg) sh_30 sh_31 (gf_30_0 hg) (by decide) (by decide) hN (CPN_ne (by omega)) k0 k1 ?_)
  refine z_aload_n dX5_take_16 rfl (by omega) ?_
  refine z_iconst dX5_take_17 ⟨by decide, by decide⟩ ?_
  refine y_putz (k' := 2) fl_X5_30 rfl dX5_take_18 sh_171 (by decide) (by omega) ?_
  refine z_ret (v := none) dX5_take_21 trivial (Nat.add_zero _).symm (Nat.add_zero _).symm rfl ?_
  exact hQ
theorem qX5_give_171 {l : Launch} {g h : zH} {Q : zQt} (hg : zGd g) (H : HG g) (k0 : 0 ≤ h 178 1) (k1 : h 178 1 ≤ 10) (hQ : Q none (SHL, g) (giveH g h 171)) : zC l mX5_give [zr 171, zr 24, zr 30] (SHL, g) h Q := by
  refine z_method kX5_give.1 rfl (Nat.le_of_ble_eq_true rfl) (fun hok hh => ?_)
  have hN : ∀ i : Int, 0 ≤ i → i < 10 → g (30 + 1) i ∈ NOWS ∧ g (178 + 1) i ∈ NOWS ∧ sep (g (30 + 1) i) (g (178 + 1) i) ∧ (30 < g (30 + 1) i ∨ g (30 + 1) i + 5 < 30) := (fun i i0 i1 => by
    have e : g (178 + 1) i = 179 + 1 + 6 * i := img_g hg (by decide) i0 i1
    have r := H.rg i0 i1
    have m := H.mem i0 i1
    rw [e]
    exact ⟨m, img_in (by decide) i0 i1, show sep (g 31 i) _ by unfold sep; omega, show 30 < g 31 i ∨ g 31 i + 5 < 30 by omega⟩)
  refine z_aload_n dX5_give_0 rfl (by omega) ?_
  refine z_aload_n dX5_give_1 rfl (by omega) ?_
  refine y_geto (k' := 0) fl_X5_10 rfl dX5_give_2 sh_171 (by decide) (gf_171_0 hg) ?_
  refine z_callV (T := mX6_copyFrom) (As := [_]) kX6_copyFrom ml_X5_23 ⟨by decide, by decide⟩ dX5_give_5 rfl rfl (Nat.le_of_ble_eq_true rfl) sh_24 ⟨by decide, rfl⟩ (Nat.le_refl _) (Nat.le_refl _) (qX6_copyFrom hg (by decide) (by decide) (by unfold sep; omega) ?_)
  refine z_aload_n dX5_give_8 rfl (by omega) ?_
  refine z_aload_n dX5_give_9 rfl (by omega) ?_
  refine y_geto (k' := 1) fl_X5_19 rfl dX5_give_10 sh_171 (by decide) (gf_171_1 hg) ?_
  refine z_callV (T := mX3_copyFrom) (As := [_]) kX3_copyFrom ml_X5_27 ⟨by decide, by decide⟩ dX5_give_13 rfl rfl (Nat.le_of_ble_eq_true rfl) sh_30 ⟨by decide, rfl⟩ (Nat.le_refl _) (Nat.le_refl _) (qX3_copyFrom (k := h 178 1) hg sh_30 sh_31 (gf_30_0 hg) sh_178 sh_179 (gf_178_0 hg) (by decide) (by decide) hN (CPN_ne (by omega)) k0 k1 ?_)
  refine z_ret (v := none) dX5_give_16 trivial (Nat.add_zero _).symm (Nat.add_zero _).symm rfl ?_
  exact hQ
theorem takeH_ne {g h : zH} (hg : zGd g) {I a b : Int} (hI : I = 102 ∨ I = 171) (k1 : h 30 1 ≤ 10) (ha : a < 102 ∨ 239 < a) : takeH g h I a b = h a b := by
  have e : I + 7 + 1 = 110 ∨ I + 7 + 1 = 179 := by omega
  unfold takeH
  rw [zup_ne (by omega), hcp_ne _ (fun i i0 i1 => by rw [img_g hg e i0 (by omega)]; omega), zup_ne (by omega), CPN_ne (by omega)]
theorem giveH_ne {g h : zH} (H : HG g) {I a b : Int} (k1 : h (I + 7) 1 ≤ 10) (ha : a < 24 ∨ 91 < a) : giveH g h I a b = h a b := by
  unfold giveH
  rw [hcp_ne _ (fun i i0 i1 => by have := H.rg i0 (show i < 10 by omega); show a < g 31 i ∨ g 31 i + 5 < a; omega), zup_ne (by omega), CPN_ne (by omega)]
def keepC (g h : zH) (t j : Int) : Int × zH := if 0 ≤ j ∧ j ≤ 1 then (stC h t, takeH g h (102 + 69 * j)) else (-1, h)
def backC (g h : zH) (t j : Int) : Int × zH := if 0 ≤ j ∧ j ≤ 1 then (if h (102 + 69 * j) 2 = 0 then (-2, h) else (sumN (fun d => h (102 + 69 * j + 3) d) (h t 2).toNat, giveH g h (102 + 69 * j))) else (-1, h)
theorem giveH_st {g h : zH} (H : HG g) {I d : Int} (hI : I = 102 ∨ I = 171) (k1 : h (I + 7) 1 ≤ 10) (d0 : 0 ≤ d) (d1 : d < 6) : giveH g h I 26 d = h (I + 3) d := by
  unfold giveH
  rw [hcp_ne _ (fun i i0 i1 => by have := H.rg i0 (show i < 10 by omega); show 26 < g 31 i ∨ g 31 i + 5 < 26; omega), zup_ne (by omega)]
  have := CPN_r2 (h := h) (n := 24) (m := I + 1) (b := d) (by unfold sep; omega) d0 d1
  rw [show (24 : Int) + 2 = 26 by omega, show I + 1 + 2 = I + 3 by omega] at this
  exact this
set_option maxHeartbeats 2000000 in
theorem qX9_keep {l : Launch} {g h : zH} {Q : zQt} {t : Int} (hg : zGd g) (ht : t = 4 ∨ t = 14) (ht1 : g 1 1 = t) (hc : CB h t) {j : Int} (H : HG g) (hQ : Q (some (zi (keepC g h t j).1)) (SHL, g) (keepC g h t j).2) : zC l mX9_keep [zr 1, zi j] (SHL, g) h Q := by
  obtain ⟨ts0, ts1, ts2, ts3, ts4, ts5, ts6, ts7, ts8, ts9, tg4, tg5, tg6, tg7, tg8, tg9, tg10, tg11, tg12⟩ := houseF hg ht
  obtain ⟨⟨⟨m0, m1, m2, m3⟩, mp, md, mn⟩, ⟨nd, nc, nl⟩, ck, cs, cpp, cl, ct⟩ := id hc
  have t8 : 4 ≤ t ∧ t ≤ 14 := by omega
  refine z_method kX9_keep.1 rfl (Nat.le_of_ble_eq_true rfl) (fun hok hh => ?_)
  by_cases c : 0 ≤ j ∧ j ≤ 1
  · rcases (show j = 0 ∨ j = 1 by omega) with rfl | rfl
    ·
      have e1 : keepC g h t 0 = (stC h t, takeH g h 102) := if_pos (by decide)
      rw [e1] at hQ
      refine z_iload_n dX9_keep_0 rfl ?_
      refine z_if_lt (tgt := 9) dX9_keep_1 (by decide) (fun q => False.elim (by omega)) (fun _ => ?_)
      refine z_iload_n dX9_keep_4 rfl ?_
      refine z_iconst dX9_keep_5 ⟨by decide, by decide⟩ ?_
      refine z_icmp_lt (tgt := 11) dX9_keep_6 (by decide) (fun _ => ?_) (fun q => False.elim (by omega))
      refine z_aload_n dX9_keep_11 rfl (by omega) ?_
      refine y_geta (k' := 5) fl_X9_42 rfl dX9_keep_12 sh_1 (by decide) (gf_1_5 hg) ?_
      refine z_iload_n dX9_keep_15 rfl ?_
      refine z_maload dX9_keep_16 sh_92 (by decide) (by decide) (gf_92_0 hg) ?_
      refine z_aload_n dX9_keep_17 rfl (by omega) ?_
      refine y_geto (k' := 3) fl_X9_29 rfl dX9_keep_18 sh_1 (by decide) (gf_1_3 hg) ?_
      refine z_aload_n dX9_keep_21 rfl (by omega) ?_
      refine y_geto (k' := 4) fl_X9_36 rfl dX9_keep_22 sh_1 (by decide) (gf_1_4 hg) ?_
      refine z_callV (T := mX5_take) (As := [_, _]) kX5_take ml_X9_295 ⟨by decide, by decide⟩ dX9_keep_25 rfl rfl (Nat.le_of_ble_eq_true rfl) sh_102 ⟨by decide, rfl⟩ (Nat.le_refl _) (Nat.le_refl _) (qX5_take_102 hg H ck.1 ck.2 ?_)
      refine z_aload_n dX9_keep_28 rfl (by omega) ?_
      refine z_callV (T := mX9_stonesTogether) (As := []) kX9_stonesTogether ml_X9_209 ⟨by decide, by decide⟩ dX9_keep_29 rfl rfl (Nat.le_of_ble_eq_true rfl) sh_1 ⟨by decide, rfl⟩ (Nat.le_refl _) (Nat.le_refl _) (qX9_stonesTogether hg ht ht1 (by rw [takeH_ne hg (by decide) ck.2 (by omega)]; exact m2) (fun d d0 d1 => by rw [takeH_ne hg (by decide) ck.2 (by omega)] at d1; rw [takeH_ne hg (by decide) ck.2 (by omega)]; exact (nd d d0 d1).2.1) ?_)
      rw [show stC (takeH g h 102) t = stC h t by
        unfold stC
        rw [takeH_ne hg (by decide) ck.2 (by omega)]
        exact sumN_congr _ (fun d d0 d1 => takeH_ne hg (by decide) ck.2 (by omega))]
      refine z_ret (v := some (zi _)) dX9_keep_32 trivial (Nat.add_zero _).symm (Nat.add_zero _).symm rfl ?_
      exact hQ
    ·
      have e1 : keepC g h t 1 = (stC h t, takeH g h 171) := if_pos (by decide)
      rw [e1] at hQ
      refine z_iload_n dX9_keep_0 rfl ?_
      refine z_if_lt (tgt := 9) dX9_keep_1 (by decide) (fun q => False.elim (by omega)) (fun _ => ?_)
      refine z_iload_n dX9_keep_4 rfl ?_
      refine z_iconst dX9_keep_5 ⟨by decide, by decide⟩ ?_
      refine z_icmp_lt (tgt := 11) dX9_keep_6 (by decide) (fun _ => ?_) (fun q => False.elim (by omega))
      refine z_aload_n dX9_keep_11 rfl (by omega) ?_
      refine y_geta (k' := 5) fl_X9_42 rfl dX9_keep_12 sh_1 (by decide) (gf_1_5 hg) ?_
      refine z_iload_n dX9_keep_15 rfl ?_
      refine z_maload dX9_keep_16 sh_92 (by decide) (by decide) (gf_92_1 hg) ?_
      refine z_aload_n dX9_keep_17 rfl (by omega) ?_
      refine y_geto (k' := 3) fl_X9_29 rfl dX9_keep_18 sh_1 (by decide) (gf_1_3 hg) ?_
      refine z_aload_n dX9_keep_21 rfl (by omega) ?_
      refine y_geto (k' := 4) fl_X9_36 rfl dX9_keep_22 sh_1 (by decide) (gf_1_4 hg) ?_
      refine z_callV (T := mX5_take) (As := [_, _]) kX5_take ml_X9_295 ⟨by decide, by decide⟩ dX9_keep_25 rfl rfl (Nat.le_of_ble_eq_true rfl) sh_171 ⟨by decide, rfl⟩ (Nat.le_refl _) (Nat.le_refl _) (qX5_take_171 hg H ck.1 ck.2 ?_)
      refine z_aload_n dX9_keep_28 rfl (by omega) ?_
      refine z_callV (T := mX9_stonesTogether) (As := []) kX9_stonesTogether ml_X9_209 ⟨by decide, by decide⟩ dX9_keep_29 rfl rfl (Nat.le_of_ble_eq_true rfl) sh_1 ⟨by decide, rfl⟩ (Nat.le_refl _) (Nat.le_refl _) (qX9_stonesTogether hg ht ht1 (by rw [takeH_ne hg (by decide) ck.2 (by omega)]; exact m2) (fun d d0 d1 => by rw [takeH_ne hg (by decide) ck.2 (by omega)] at d1; rw [takeH_ne hg (by decide) ck.2 (by omega)]; exact (nd d d0 d1).2.1) ?_)
      rw [show stC (takeH g h 171) t = stC h t by
        unfold stC
        rw [takeH_ne hg (by decide) ck.2 (by omega)]
        exact sumN_congr _ (fun d d0 d1 => takeH_ne hg (by decide) ck.2 (by omega))]
      refine z_ret (v := some (zi _)) dX9_keep_32 trivial (Nat.add_zero _).symm (Nat.add_zero _).symm rfl ?_
      exact hQ
  · rw [keepC, if_neg c] at hQ
    refine z_iload_n dX9_keep_0 rfl ?_
    refine z_if_lt (tgt := 9) dX9_keep_1 (by decide) (fun c1 => ?_) (fun c1 => ?_)
    ·
      refine z_iconst dX9_keep_9 ⟨by decide, by decide⟩ ?_
      refine z_ret (v := some (zi _)) dX9_keep_10 trivial (Nat.add_zero _).symm (Nat.add_zero _).symm rfl ?_
      exact hQ
    ·
      refine z_iload_n dX9_keep_4 rfl ?_
      refine z_iconst dX9_keep_5 ⟨by decide, by decide⟩ ?_
      refine z_icmp_lt (tgt := 11) dX9_keep_6 (by decide) (fun c6 => ?_) (fun c6 => ?_)
      ·
        omega
      ·
        refine z_iconst dX9_keep_9 ⟨by decide, by decide⟩ ?_
        refine z_ret (v := some (zi _)) dX9_keep_10 trivial (Nat.add_zero _).symm (Nat.add_zero _).symm rfl ?_
        exact hQ
set_option maxHeartbeats 2000000 in
theorem qX9_back {l : Launch} {g h : zH} {Q : zQt} {t : Int} (hg : zGd g) (ht : t = 4 ∨ t = 14) (ht1 : g 1 1 = t) (hc : CB h t) {j : Int} (H : HG g) (hk : ¬ h (102 + 69 * j) 2 = 0 → 0 ≤ h (102 + 69 * j + 7) 1 ∧ h (102 + 69 * j + 7) 1 ≤ 10 ∧ ∀ d, 0 ≤ d → d < h t 2 → 0 ≤ h (102 + 69 * j + 3) d ∧ h (102 + 69 * j + 3) d ≤ 99) (hQ : Q (some (zi (backC g h t j).1)) (SHL, g) (backC g h t j).2) : zC l mX9_back [zr 1, zi j] (SHL, g) h Q := by
  obtain ⟨ts0, ts1, ts2, ts3, ts4, ts5, ts6, ts7, ts8, ts9, tg4, tg5, tg6, tg7, tg8, tg9, tg10, tg11, tg12⟩ := houseF hg ht
  obtain ⟨⟨⟨m0, m1, m2, m3⟩, mp, md, mn⟩, ⟨nd, nc, nl⟩, ck, cs, cpp, cl, ct⟩ := id hc
  have t8 : 4 ≤ t ∧ t ≤ 14 := by omega
  refine z_method kX9_back.1 rfl (Nat.le_of_ble_eq_true rfl) (fun hok hh => ?_)
  by_cases c : 0 ≤ j ∧ j ≤ 1
  · rcases (show j = 0 ∨ j = 1 by omega) with rfl | rfl
    ·
      have eI : (102 : Int) + 69 * 0 = 102 := by decide
      by_cases z : h 102 2 = 0
      · have e1 : backC g h t 0 = (-2, h) := by unfold backC; rw [if_pos (by decide), eI, if_pos z]
        rw [e1] at hQ
        refine z_iload_n dX9_back_0 rfl ?_
        refine z_if_lt (tgt := 9) dX9_back_1 (by decide) (fun q => False.elim (by omega)) (fun _ => ?_)
        refine z_iload_n dX9_back_4 rfl ?_
        refine z_iconst dX9_back_5 ⟨by decide, by decide⟩ ?_
        refine z_icmp_lt (tgt := 11) dX9_back_6 (by decide) (fun _ => ?_) (fun q => False.elim (by omega))
        refine z_aload_n dX9_back_11 rfl (by omega) ?_
        refine y_geta (k' := 5) fl_X9_42 rfl dX9_back_12 sh_1 (by decide) (gf_1_5 hg) ?_
        refine z_iload_n dX9_back_15 rfl ?_
        refine z_maload dX9_back_16 sh_92 (by decide) (by decide) (gf_92_0 hg) ?_
        refine y_getz (k' := 2) fl_X9_94 rfl dX9_back_17 sh_102 (by decide) rfl ?_
        refine z_if_ne (tgt := 26) dX9_back_20 (by decide) (fun q => False.elim (by omega)) (fun _ => ?_)
        refine z_bipush dX9_back_23 ⟨by decide, by decide⟩ ?_
        refine z_ret (v := some (zi _)) dX9_back_25 trivial (Nat.add_zero _).symm (Nat.add_zero _).symm rfl ?_
        exact hQ
      · have e1 : backC g h t 0 = (sumN (fun d => h 105 d) (h t 2).toNat, giveH g h 102) := by unfold backC; rw [if_pos (by decide), eI, if_neg z]; rfl
        rw [e1] at hQ
        obtain ⟨k0, k1, ks⟩ := hk z
        replace k0 : 0 ≤ h 109 1 := k0
        replace k1 : h 109 1 ≤ 10 := k1
        have es : ∀ d : Int, 0 ≤ d → d < h t 2 → giveH g h 102 26 d = h 105 d := fun d d0 d1 => giveH_st H (by decide) k1 d0 (by omega)
        have e2 : giveH g h 102 t 2 = h t 2 := giveH_ne H k1 (by omega)
        refine z_iload_n dX9_back_0 rfl ?_
        refine z_if_lt (tgt := 9) dX9_back_1 (by decide) (fun q => False.elim (by omega)) (fun _ => ?_)
        refine z_iload_n dX9_back_4 rfl ?_
        refine z_iconst dX9_back_5 ⟨by decide, by decide⟩ ?_
        refine z_icmp_lt (tgt := 11) dX9_back_6 (by decide) (fun _ => ?_) (fun q => False.elim (by omega))
        refine z_aload_n dX9_back_11 rfl (by omega) ?_
        refine y_geta (k' := 5) fl_X9_42 rfl dX9_back_12 sh_1 (by decide) (gf_1_5 hg) ?_
        refine z_iload_n dX9_back_15 rfl ?_
        refine z_maload dX9_back_16 sh_92 (by decide) (by decide) (gf_92_0 hg) ?_
        refine y_getz (k' := 2) fl_X9_94 rfl dX9_back_17 sh_102 (by decide) rfl ?_
        refine z_if_ne (tgt := 26) dX9_back_20 (by decide) (fun _ => ?_) (fun q => False.elim (by omega))
        refine z_aload_n dX9_back_26 rfl (by omega) ?_
        refine y_geta (k' := 5) fl_X9_42 rfl dX9_back_27 sh_1 (by decide) (gf_1_5 hg) ?_
        refine z_iload_n dX9_back_30 rfl ?_
        refine z_maload dX9_back_31 sh_92 (by decide) (by decide) (gf_92_0 hg) ?_
        refine z_aload_n dX9_back_32 rfl (by omega) ?_
        refine y_geto (k' := 3) fl_X9_29 rfl dX9_back_33 sh_1 (by decide) (gf_1_3 hg) ?_
        refine z_aload_n dX9_back_36 rfl (by omega) ?_
        refine y_geto (k' := 4) fl_X9_36 rfl dX9_back_37 sh_1 (by decide) (gf_1_4 hg) ?_
        refine z_callV (T := mX5_give) (As := [_, _]) kX5_give ml_X9_299 ⟨by decide, by decide⟩ dX9_back_40 rfl rfl (Nat.le_of_ble_eq_true rfl) sh_102 ⟨by decide, rfl⟩ (Nat.le_refl _) (Nat.le_refl _) (qX5_give_102 hg H k0 k1 ?_)
        refine z_aload_n dX9_back_43 rfl (by omega) ?_
        refine z_callV (T := mX9_stonesTogether) (As := []) kX9_stonesTogether ml_X9_209 ⟨by decide, by decide⟩ dX9_back_44 rfl rfl (Nat.le_of_ble_eq_true rfl) sh_1 ⟨by decide, rfl⟩ (Nat.le_refl _) (Nat.le_refl _) (qX9_stonesTogether hg ht ht1 (by rw [e2]; exact m2) (fun d d0 d1 => by rw [e2] at d1; rw [es d d0 d1]; exact ks d d0 d1) ?_)
        rw [show stC (giveH g h 102) t = sumN (fun d => h 105 d) (h t 2).toNat by
          unfold stC
          rw [e2]
          exact sumN_congr _ (fun d d0 d1 => es d d0 (by omega))]
        refine z_ret (v := some (zi _)) dX9_back_47 trivial (Nat.add_zero _).symm (Nat.add_zero _).symm rfl ?_
        exact hQ
    ·
      have eI : (102 : Int) + 69 * 1 = 171 := by decide
      by_cases z : h 171 2 = 0
      · have e1 : backC g h t 1 = (-2, h) := by unfold backC; rw [if_pos (by decide), eI, if_pos z]
        rw [e1] at hQ
        refine z_iload_n dX9_back_0 rfl ?_
        refine z_if_lt (tgt := 9) dX9_back_1 (by decide) (fun q => False.elim (by omega)) (fun _ => ?_)
        refine z_iload_n dX9_back_4 rfl ?_
        refine z_iconst dX9_back_5 ⟨by decide, by decide⟩ ?_
        refine z_icmp_lt (tgt := 11) dX9_back_6 (by decide) (fun _ => ?_) (fun q => False.elim (by omega))
        refine z_aload_n dX9_back_11 rfl (by omega) ?_
        refine y_geta (k' := 5) fl_X9_42 rfl dX9_back_12 sh_1 (by decide) (gf_1_5 hg) ?_
        refine z_iload_n dX9_back_15 rfl ?_
        refine z_maload dX9_back_16 sh_92 (by decide) (by decide) (gf_92_1 hg) ?_
        refine y_getz (k' := 2) fl_X9_94 rfl dX9_back_17 sh_171 (by decide) rfl ?_
        refine z_if_ne (tgt := 26) dX9_back_20 (by decide) (fun q => False.elim (by omega)) (fun _ => ?_)
        refine z_bipush dX9_back_23 ⟨by decide, by decide⟩ ?_
        refine z_ret (v := some (zi _)) dX9_back_25 trivial (Nat.add_zero _).symm (Nat.add_zero _).symm rfl ?_
        exact hQ
      · have e1 : backC g h t 1 = (sumN (fun d => h 174 d) (h t 2).toNat, giveH g h 171) := by unfold backC; rw [if_pos (by decide), eI, if_neg z]; rfl
        rw [e1] at hQ
        obtain ⟨k0, k1, ks⟩ := hk z
        replace k0 : 0 ≤ h 178 1 := k0
        replace k1 : h 178 1 ≤ 10 := k1
        have es : ∀ d : Int, 0 ≤ d → d < h t 2 → giveH g h 171 26 d = h 174 d := fun d d0 d1 => giveH_st H (by decide) k1 d0 (by omega)
        have e2 : giveH g h 171 t 2 = h t 2 := giveH_ne H k1 (by omega)
        refine z_iload_n dX9_back_0 rfl ?_
        refine z_if_lt (tgt := 9) dX9_back_1 (by decide) (fun q => False.elim (by omega)) (fun _ => ?_)
        refine z_iload_n dX9_back_4 rfl ?_
        refine z_iconst dX9_back_5 ⟨by decide, by decide⟩ ?_
        refine z_icmp_lt (tgt := 11) dX9_back_6 (by decide) (fun _ => ?_) (fun q => False.elim (by omega))
        refine z_aload_n dX9_back_11 rfl (by omega) ?_
        refine y_geta (k' := 5) fl_X9_42 rfl dX9_back_12 sh_1 (by decide) (gf_1_5 hg) ?_
        refine z_iload_n dX9_back_15 rfl ?_
        refine z_maload dX9_back_16 sh_92 (by decide) (by decide) (gf_92_1 hg) ?_
        refine y_getz (k' := 2) fl_X9_94 rfl dX9_back_17 sh_171 (by decide) rfl ?_
        refine z_if_ne (tgt := 26) dX9_back_20 (by decide) (fun _ => ?_) (fun q => False.elim (by omega))
        refine z_aload_n dX9_back_26 rfl (by omega) ?_
        refine y_geta (k' := 5) fl_X9_42 rfl dX9_back_27 sh_1 (by decide) (gf_1_5 hg) ?_
        refine z_iload_n dX9_back_30 rfl ?_
        refine z_maload dX9_back_31 sh_92 (by decide) (by decide) (gf_92_1 hg) ?_
        refine z_aload_n dX9_back_32 rfl (by omega) ?_
        refine y_geto (k' := 3) fl_X9_29 rfl dX9_back_33 sh_1 (by decide) (gf_1_3 hg) ?_
        refine z_aload_n dX9_back_36 rfl (by omega) ?_
        refine y_geto (k' := 4) fl_X9_36 rfl dX9_back_37 sh_1 (by decide) (gf_1_4 hg) ?_
        refine z_callV (T := mX5_give) (As := [_, _]) kX5_give ml_X9_299 ⟨by decide, by decide⟩ dX9_back_40 rfl rfl (Nat.le_of_ble_eq_true rfl) sh_171 ⟨by decide, rfl⟩ (Nat.le_refl _) (Nat.le_refl _) (qX5_give_171 hg H k0 k1 ?_)
        refine z_aload_n dX9_back_43 rfl (by omega) ?_
        refine z_callV (T := mX9_stonesTogether) (As := []) kX9_stonesTogether ml_X9_209 ⟨by decide, by decide⟩ dX9_back_44 rfl rfl (Nat.le_of_ble_eq_true rfl) sh_1 ⟨by decide, rfl⟩ (Nat.le_refl _) (Nat.le_refl _) (qX9_stonesTogether hg ht ht1 (by rw [e2]; exact m2) (fun d d0 d1 => by rw [e2] at d1; rw [es d d0 d1]; exact ks d d0 d1) ?_)
        rw [show stC (giveH g h 171) t = sumN (fun d => h 174 d) (h t 2).toNat by
          unfold stC
          rw [e2]
          exact sumN_congr _ (fun d d0 d1 => es d d0 (by omega))]
        refine z_ret (v := some (zi _)) dX9_back_47 trivial (Nat.add_zero _).symm (Nat.add_zero _).symm rfl ?_
        exact hQ
  · rw [backC, if_neg c] at hQ
    refine z_iload_n dX9_back_0 rfl ?_
    refine z_if_lt (tgt := 9) dX9_back_1 (by decide) (fun c1 => ?_) (fun c1 => ?_)
    ·
      refine z_iconst dX9_back_9 ⟨by decide, by decide⟩ ?_
      refine z_ret (v := some (zi _)) dX9_back_10 trivial (Nat.add_zero _).symm (Nat.add_zero _).symm rfl ?_
      exact hQ
    ·
      refine z_iload_n dX9_back_4 rfl ?_
      refine z_iconst dX9_back_5 ⟨by decide, by decide⟩ ?_
      refine z_icmp_lt (tgt := 11) dX9_back_6 (by decide) (fun c6 => ?_) (fun c6 => ?_)
      ·
        omega
      ·
        refine z_iconst dX9_back_9 ⟨by decide, by decide⟩ ?_
        refine z_ret (v := some (zi _)) dX9_back_10 trivial (Nat.add_zero _).symm (Nat.add_zero _).symm rfl ?_
        exact hQ
