/-! The class: ways, where all meet, now. -/
def cscr (a b : Int) : Prop := a = 97 ∨ a = 98 ∨ a = 100 ∨ a = 101 ∨ (a = 96 ∧ (b = 2 ∨ b = 3)) ∨ (a = 99 ∧ b = 2)
/-- the same but for what the class uses in between -/
def SC (h h' : zH) : Prop := ∀ a b, ¬ cscr a b → h' a b = h a b
theorem SC_refl (h : zH) : SC h h := fun _ _ _ => rfl
theorem HB_congr {h h' : zH} {t : Int} (e : ∀ a b, t ≤ a → a ≤ t + 9 → h' a b = h a b) (hb : HB h t) : HB h' t := by
  have e0 := fun b => e t b (by omega) (by omega)
  have e1 := fun b => e (t + 1) b (by omega) (by omega)
  have e2 := fun b => e (t + 2) b (by omega) (by omega)
  have e3 := fun b => e (t + 3) b (by omega) (by omega)
  have e4 := fun b => e (t + 4) b (by omega) (by omega)
  have e6 := fun b => e (t + 6) b (by omega) (by omega)
  have e8 := fun b => e (t + 8) b (by omega) (by omega)
  have e9 := fun b => e (t + 9) b (by omega) (by omega)
  simp only [HB, e0, e1, e2, e3, e4, e6, e8, e9]
  exact hb
def les (f : Int → Int) (a b c : Int) : Int → Int := if f a < 268435456 then fu f b (min (f b) (f a + c)) else f
theorem les_t {f : Int → Int} {a b c : Int} (e : f a < 268435456) : les f a b c = fu f b (min (f b) (f a + c)) := if_pos e
theorem les_f {f : Int → Int} {a b c : Int} (e : ¬ f a < 268435456) : les f a b c = f := if_neg e
def rlx (pa pb ps : Int → Int) (st str : Int) (f : Int → Int) (p : Int) : Int → Int := if st + ps p ≤ str then les (les f (pa p) (pb p) (st * ps p * 16 + 1)) (pb p) (pa p) (st * ps p * 16 + 1) else f
def rpass (pa pb ps : Int → Int) (st str : Int) (f : Int → Int) : Nat → Int → Int
  | 0 => f
  | n + 1 => rlx pa pb ps st str (rpass pa pb ps st str f n) n
def rit (pa pb ps : Int → Int) (st str : Int) (P : Nat) (f : Int → Int) : Nat → Int → Int
  | 0 => f
  | n + 1 => rpass pa pb ps st str (rit pa pb ps st str P f n) P
def f0C (s : Int) : Int → Int := fun r => if r = s then 0 else 268435456
def ffC (h : zH) (t s st str : Int) : Int → Int := rit (paC h t) (pbC h t) (psC h t) st str (h t 1).toNat (f0C s) (h t 0 - 1).toNat
def FB (f : Int → Int) : Prop := ∀ r, 0 ≤ r → r < 8 → 0 ≤ f r ∧ f r ≤ 268435456
theorem f0C_B (s : Int) : FB (f0C s) := fun r _ _ => by unfold f0C; split <;> omega
theorem les_B {f : Int → Int} {a b c : Int} (hf : FB f) (a0 : 0 ≤ a) (a1 : a < 8) (c0 : 0 ≤ c) : FB (les f a b c) := by
  intro r r0 r1
  have x := hf r r0 r1
  have y := hf a a0 a1
  by_cases e : f a < 268435456
  · rw [les_t e]
    by_cases z : r = b
    · subst z; rw [fu_at]; omega
    · rw [fu_ne z]; exact x
  · rw [les_f e]; exact x
theorem rlx_t {pa pb ps : Int → Int} {st str : Int} {f : Int → Int} {p : Int} (e : st + ps p ≤ str) : rlx pa pb ps st str f p = les (les f (pa p) (pb p) (st * ps p * 16 + 1)) (pb p) (pa p) (st * ps p * 16 + 1) := if_pos e
theorem rlx_f {pa pb ps : Int → Int} {st str : Int} {f : Int → Int} {p : Int} (e : ¬ st + ps p ≤ str) : rlx pa pb ps st str f p = f := if_neg e
theorem rlx_B {pa pb ps : Int → Int} {st str : Int} {f : Int → Int} {p : Int} (hf : FB f) (ha : 0 ≤ pa p ∧ pa p < 8) (hb : 0 ≤ pb p ∧ pb p < 8) (hs : 0 ≤ ps p) (h0 : 0 ≤ st) : FB (rlx pa pb ps st str f p) := by
  have := Int.mul_nonneg h0 hs
  by_cases e : st + ps p ≤ str
  · rw [rlx_t e]; exact les_B (les_B hf ha.1 ha.2 (by omega)) hb.1 hb.2 (by omega)
  · rw [rlx_f e]; exact hf
theorem rpass_B {pa pb ps : Int → Int} {st str : Int} {f : Int → Int} {P : Nat} (hp : ∀ p : Int, 0 ≤ p → p < P → (0 ≤ pa p ∧ pa p < 8) ∧ (0 ≤ pb p ∧ pb p < 8) ∧ 0 ≤ ps p) (hf : FB f) (h0 : 0 ≤ st) : ∀ n : Nat, n ≤ P → FB (rpass pa pb ps st str f n) := by
  intro n
  induction n with
  | zero => intro _; exact hf
  | succ n ih => intro hn; have q := hp n (by omega) (by omega); exact rlx_B (ih (by omega)) q.1 q.2.1 q.2.2 h0
theorem rit_B {pa pb ps : Int → Int} {st str : Int} {f : Int → Int} {P : Nat} (hp : ∀ p : Int, 0 ≤ p → p < P → (0 ≤ pa p ∧ pa p < 8) ∧ (0 ≤ pb p ∧ pb p < 8) ∧ 0 ≤ ps p) (hf : FB f) (h0 : 0 ≤ st) : ∀ n : Nat, FB (rit pa pb ps st str P f n) := by
  intro n
  induction n with
  | zero => exact hf
  | succ n ih => exact rpass_B hp ih h0 P (Nat.le_refl _)
theorem HB.pth {h : zH} {t : Int} (hb : HB h t) : ∀ p : Int, 0 ≤ p → p < ((h t 1).toNat : Int) → (0 ≤ paC h t p ∧ paC h t p < 8) ∧ (0 ≤ pbC h t p ∧ pbC h t p < 8) ∧ 0 ≤ psC h t p := fun p p0 p1 => by
  have a := hb.2.1 p p0 (by omega)
  have b := hb.1.1
  show (0 ≤ h (t + 1) p ∧ h (t + 1) p < 8) ∧ (0 ≤ h (t + 2) p ∧ h (t + 2) p < 8) ∧ 0 ≤ h (t + 3) p
  omega
theorem ffC_B {h : zH} {t s st str : Int} (hb : HB h t) (h0 : 0 ≤ st) : FB (ffC h t s st str) := rit_B hb.pth (f0C_B s) h0 _
theorem har_succ {h : zH} {A : Int} {f : Int → Int} {n : Nat} : har h A (n + 1) f = zup (har h A n f) A n (f n) := by
  funext a b
  by_cases ha : a = A ∧ b = n
  · obtain ⟨rfl, rfl⟩ := ha
    rw [zup_same, har_at (by omega) (by omega)]
  · rw [zup_ne ha]
    unfold har
    by_cases c : a = A ∧ 0 ≤ b ∧ b < (n : Int)
    · have c2 : a = A ∧ 0 ≤ b ∧ b < ((n + 1 : Nat) : Int) := by omega
      rw [if_pos c, if_pos c2]
    · have c2 : ¬ (a = A ∧ 0 ≤ b ∧ b < ((n + 1 : Nat) : Int)) := by omega
      rw [if_neg c, if_neg c2]
theorem har_0 {h : zH} {A : Int} {f : Int → Int} : har h A 0 f = h := by
  funext a b
  unfold har
  rw [if_neg (by omega)]
theorem har_har (h : zH) (A : Int) (n : Nat) (f f' : Int → Int) : har (har h A n f) A n f' = har h A n f' := by
  funext a b
  unfold har
  split <;> rfl
theorem har_zup {h : zH} {A B : Int} (n : Nat) (f : Int → Int) {k v : Int} (ne : B ≠ A) : zup (har h A n f) B k v = har (zup h B k v) A n f := by
  funext a b
  by_cases ha : a = B ∧ b = k
  · obtain ⟨rfl, rfl⟩ := ha
    rw [zup_same, har_ne ne, zup_same]
  · rw [zup_ne ha]
    unfold har
    by_cases c : a = A ∧ 0 ≤ b ∧ b < (n : Int)
    · rw [if_pos c, if_pos c]
    · rw [if_neg c, if_neg c, zup_ne ha]
theorem qX8_lessen {l : Launch} {g h : zH} {Q : zQt} (hg : zGd g) {a b c : Int} {f : Int → Int} (hf : FB f) (a0 : 0 ≤ a) (a1 : a < 8) (b0 : 0 ≤ b) (b1 : b < 8) (c0 : 0 ≤ c) (c1 : c ≤ 20000) (hQ : Q none (SHL, g) (har h 97 8 (les f a b c))) : zC l mX8_lessen [zr 96, zi a, zi b, zi c] (SHL, g) (har h 97 8 f) Q := by
  refine z_method kX8_lessen.1 rfl (Nat.le_of_ble_eq_true rfl) (fun hok hh => ?_)
  have f1 := hf a a0 a1
  have f2 := hf b b0 b1
  refine z_aload_n dX8_lessen_0 rfl (by omega) ?_
  refine y_geta (k' := 0) fl_X8_9 rfl dX8_lessen_1 sh_96 (by decide) (gf_96_0 hg) ?_
  refine z_iload_n dX8_lessen_4 rfl ?_
  refine z_iaload dX8_lessen_5 sh_97 (by omega) (by omega) (har_at (by omega) (by omega)) ?_
  refine z_ldc dX8_lessen_6 kc_X8_18 ⟨by decide, by decide⟩ ?_
  refine z_icmp_ge (tgt := 34) dX8_lessen_8 (by decide) (fun c8 => ?_) (fun c8 => ?_)
  ·
    refine z_ret (v := none) dX8_lessen_34 trivial (Nat.add_zero _).symm (Nat.add_zero _).symm rfl ?_
    first
      | (rw [les_f (by omega)] at hQ; exact hQ)
      | (rw [har_up b0 b1]; rw [les_t (by omega)] at hQ; exact hQ)
  ·
    refine z_aload_n dX8_lessen_11 rfl (by omega) ?_
    refine y_geta (k' := 0) fl_X8_9 rfl dX8_lessen_12 sh_96 (by decide) (gf_96_0 hg) ?_
    refine z_iload_n dX8_lessen_15 rfl ?_
    refine z_aload_n dX8_lessen_16 rfl (by omega) ?_
    refine y_geta (k' := 0) fl_X8_9 rfl dX8_lessen_17 sh_96 (by decide) (gf_96_0 hg) ?_
    refine z_iload_n dX8_lessen_20 rfl ?_
    refine z_iaload dX8_lessen_21 sh_97 (by omega) (by omega) (har_at (by omega) (by omega)) ?_
    refine z_aload_n dX8_lessen_22 rfl (by omega) ?_
    refine y_geta (k' := 0) fl_X8_9 rfl dX8_lessen_23 sh_96 (by decide) (gf_96_0 hg) ?_
    refine z_iload_n dX8_lessen_26 rfl ?_
    refine z_iaload dX8_lessen_27 sh_97 (by omega) (by omega) (har_at (by omega) (by omega)) ?_
    refine z_iload_n dX8_lessen_28 rfl ?_
    refine y_iadd dX8_lessen_29 (by omega) (by omega) ?_
    refine z_mmin kmin ml_X8_41 (by decide) (Nat.le_of_ble_eq_true rfl) (Nat.le_add_right _ _) (Nat.le_add_right _ _) dX8_lessen_30 ?_
    refine z_iastore dX8_lessen_33 sh_97 (by omega) (by omega) ?_
    refine z_ret (v := none) dX8_lessen_34 trivial (Nat.add_zero _).symm (Nat.add_zero _).symm rfl ?_
    first
      | (rw [les_f (by omega)] at hQ; exact hQ)
      | (rw [har_up b0 b1]; rw [les_t (by omega)] at hQ; exact hQ)
theorem lpX8_ff1 {l : Launch} {g h : zH} {Q : zQt} {t s st str : Int} (hg : zGd g) (ht : t = 4 ∨ t = 14) (K : ∀ (x6 x7 : Option zV), zW zX0 l mX8_findFrom ((SHL, g).1.length + zmc mX8_findFrom) (ztot (SHL, g) + zms mX8_findFrom) Q 35 [some (zr 96), some (zr t), some (zi s), some (zi st), some (zi str), some (zi ((8 : Nat) : Int)), x6, x7] [] (SHL, g) (har h 97 (8) (f0C s))) : ∀ (n i : Nat), i + n = 8 → ∀ (x6 x7 : Option zV), zW zX0 l mX8_findFrom ((SHL, g).1.length + zmc mX8_findFrom) (ztot (SHL, g) + zms mX8_findFrom) Q 3 [some (zr 96), some (zr t), some (zi s), some (zi st), some (zi str), some (zi (i : Int)), x6, x7] [] (SHL, g) (har h 97 i (f0C s)) := by
  obtain ⟨ts0, ts1, ts2, ts3, ts4, ts5, ts6, ts7, ts8, ts9, tg4, tg5, tg6, tg7, tg8, tg9, tg10, tg11, tg12⟩ := houseF hg ht
  intro n
  induction n with
  | zero =>
    intro i hi x6 x7
    have e9 : i = 8 := by omega
    subst e9
    refine z_iload dX8_findFrom_3 rfl ?_
    refine z_bipush dX8_findFrom_5 ⟨by decide, by decide⟩ ?_
    refine z_icmp_ge (tgt := 35) dX8_findFrom_7 (by decide) (fun _ => ?_) (fun q => False.elim (by omega))
    exact K _ _
  | succ n ih =>
    intro i hi x6 x7
    refine z_iload dX8_findFrom_3 rfl ?_
    refine z_bipush dX8_findFrom_5 ⟨by decide, by decide⟩ ?_
    refine z_icmp_ge (tgt := 35) dX8_findFrom_7 (by decide) (fun q => False.elim (by omega)) (fun _ => ?_)
    refine z_aload_n dX8_findFrom_10 rfl (by omega) ?_
    refine y_geta (k' := 0) fl_X8_9 rfl dX8_findFrom_11 sh_96 (by decide) (gf_96_0 hg) ?_
    refine z_iload dX8_findFrom_14 rfl ?_
    refine z_iload dX8_findFrom_16 rfl ?_
    refine z_iload_n dX8_findFrom_18 rfl ?_
    refine z_icmp_ne (tgt := 26) dX8_findFrom_19 (by decide) (fun c19 => ?_) (fun c19 => ?_)
    ·
      refine z_ldc dX8_findFrom_26 kc_X8_18 ⟨by decide, by decide⟩ ?_
      refine z_iastore dX8_findFrom_28 sh_97 (by omega) (by omega) ?_
      refine y_iinc dX8_findFrom_29 (by decide) rfl rfl (by omega) (by omega) lss_8_5 ?_
      refine z_goto (tgt := 3) dX8_findFrom_32 (by decide) ?_
      have q := ih (i + 1) (by omega)
      rw [har_succ] at q
      first
        | (rw [show f0C s (i : Int) = 0 from if_pos (by omega)] at q; exact q _ _)
        | (rw [show f0C s (i : Int) = 268435456 from if_neg (by omega)] at q; exact q _ _)
    ·
      refine z_iconst dX8_findFrom_22 ⟨by decide, by decide⟩ ?_
      refine z_goto (tgt := 28) dX8_findFrom_23 (by decide) ?_
      refine z_iastore dX8_findFrom_28 sh_97 (by omega) (by omega) ?_
      refine y_iinc dX8_findFrom_29 (by decide) rfl rfl (by omega) (by omega) lss_8_5 ?_
      refine z_goto (tgt := 3) dX8_findFrom_32 (by decide) ?_
      have q := ih (i + 1) (by omega)
      rw [har_succ] at q
      first
        | (rw [show f0C s (i : Int) = 0 from if_pos (by omega)] at q; exact q _ _)
        | (rw [show f0C s (i : Int) = 268435456 from if_neg (by omega)] at q; exact q _ _)
theorem lpX8_ff2 {l : Launch} {g h : zH} {Q : zQt} {t s st str e : Int} {f : Int → Int} (hg : zGd g) (ht : t = 4 ∨ t = 14) (hb : HB h t) (st0 : 0 ≤ st) (st1 : st ≤ 99) (sr0 : 0 ≤ str) (sr1 : str ≤ 40) (hf : FB f) (K : ∀ (x7 : Option zV), zW zX0 l mX8_findFrom ((SHL, g).1.length + zmc mX8_findFrom) (ztot (SHL, g) + zms mX8_findFrom) Q 135 [some (zr 96), some (zr t), some (zi s), some (zi st), some (zi str), some (zi e), some (zi (((h t 1).toNat : Nat) : Int)), x7] [] (SHL, g) (har h 97 8 (rpass (paC h t) (pbC h t) (psC h t) st str f ((h t 1).toNat)))) : ∀ (n i : Nat), i + n = (h t 1).toNat → ∀ (x7 : Option zV), zW zX0 l mX8_findFrom ((SHL, g).1.length + zmc mX8_findFrom) (ztot (SHL, g) + zms mX8_findFrom) Q 50 [some (zr 96), some (zr t), some (zi s), some (zi st), some (zi str), some (zi e), some (zi (i : Int)), x7] [] (SHL, g) (har h 97 8 (rpass (paC h t) (pbC h t) (psC h t) st str f i)) := by
  obtain ⟨ts0, ts1, ts2, ts3, ts4, ts5, ts6, ts7, ts8, ts9, tg4, tg5, tg6, tg7, tg8, tg9, tg10, tg11, tg12⟩ := houseF hg ht
  obtain ⟨⟨m0, m1, m2, m3⟩, mp, -⟩ := id hb
  intro n
  induction n with
  | zero =>
    intro i hi x7
    have e9 : i = (h t 1).toNat := by omega
    subst e9
    refine z_iload dX8_findFrom_50 rfl ?_
    refine z_aload_n dX8_findFrom_52 rfl (by omega) ?_
    refine y_geti (k' := 1) fl_X8_25 rfl dX8_findFrom_53 ts0 (by decide) (har_ne (by omega)) ?_
    refine z_icmp_ge (tgt := 135) dX8_findFrom_56 (by decide) (fun _ => ?_) (fun q => False.elim (by omega))
    exact K _
  | succ n ih =>
    intro i hi x7
    have f1 := mp i (by omega) (by omega)
    have f2 := mulb st0 st1 f1.2.2.1 f1.2.2.2
    have f3 := rpass_B (str := str) hb.pth hf st0 i (by omega)
    have f4 := les_B (b := h (t + 2) i) (c := st * h (t + 3) i * 16 + 1) f3 (show 0 ≤ h (t + 1) i by omega) (show h (t + 1) i < 8 by omega) (by omega)
    refine z_iload dX8_findFrom_50 rfl ?_
    refine z_aload_n dX8_findFrom_52 rfl (by omega) ?_
    refine y_geti (k' := 1) fl_X8_25 rfl dX8_findFrom_53 ts0 (by decide) (har_ne (by omega)) ?_
    refine z_icmp_ge (tgt := 135) dX8_findFrom_56 (by decide) (fun q => False.elim (by omega)) (fun _ => ?_)
    refine z_iload_n dX8_findFrom_59 rfl ?_
    refine z_aload_n dX8_findFrom_60 rfl (by omega) ?_
    refine y_geta (k' := 6) fl_X8_28 rfl dX8_findFrom_61 ts0 (by decide) tg6 ?_
    refine z_iload dX8_findFrom_64 rfl ?_
    refine z_iaload dX8_findFrom_66 ts3 (by omega) (by omega) (har_ne (by omega)) ?_
    refine y_iadd dX8_findFrom_67 (by omega) (by omega) ?_
    refine z_iload dX8_findFrom_68 rfl ?_
    refine z_icmp_gt (tgt := 129) dX8_findFrom_70 (by decide) (fun c70 => ?_) (fun c70 => ?_)
    ·
      refine y_iinc dX8_findFrom_129 (by decide) rfl rfl (by omega) (by omega) lss_8_6 ?_
      refine z_goto (tgt := 50) dX8_findFrom_132 (by decide) ?_
      have q := ih (i + 1) (by omega)
      have e9 : rpass (paC h t) (pbC h t) (psC h t) st str f (i + 1) = rlx (paC h t) (pbC h t) (psC h t) st str (rpass (paC h t) (pbC h t) (psC h t) st str f i) i := rfl
      rw [e9] at q
      first
        | (rw [rlx_t (show st + psC h t i ≤ str by show st + h (t + 3) i ≤ str; omega)] at q; exact q _)
        | (rw [rlx_f (show ¬ st + psC h t i ≤ str by show ¬ st + h (t + 3) i ≤ str; omega)] at q; exact q _)
    ·
      refine z_iload_n dX8_findFrom_73 rfl ?_
      refine z_aload_n dX8_findFrom_74 rfl (by omega) ?_
      refine y_geta (k' := 6) fl_X8_28 rfl dX8_findFrom_75 ts0 (by decide) tg6 ?_
      refine z_iload dX8_findFrom_78 rfl ?_
      refine z_iaload dX8_findFrom_80 ts3 (by omega) (by omega) (har_ne (by omega)) ?_
      refine y_imul dX8_findFrom_81 (by omega) (by omega) ?_
      refine z_bipush dX8_findFrom_82 ⟨by decide, by decide⟩ ?_
      refine y_imul dX8_findFrom_84 (by omega) (by omega) ?_
      refine z_iconst dX8_findFrom_85 ⟨by decide, by decide⟩ ?_
      refine y_iadd dX8_findFrom_86 (by omega) (by omega) ?_
      refine z_istore dX8_findFrom_87 (by decide) rfl lss_8_7 ?_
      refine z_aload_n dX8_findFrom_89 rfl (by omega) ?_
      refine z_aload_n dX8_findFrom_90 rfl (by omega) ?_
      refine y_geta (k' := 4) fl_X8_31 rfl dX8_findFrom_91 ts0 (by decide) tg4 ?_
      refine z_iload dX8_findFrom_94 rfl ?_
      refine z_iaload dX8_findFrom_96 ts1 (by omega) (by omega) (har_ne (by omega)) ?_
      refine z_aload_n dX8_findFrom_97 rfl (by omega) ?_
      refine y_geta (k' := 5) fl_X8_34 rfl dX8_findFrom_98 ts0 (by decide) tg5 ?_
      refine z_iload dX8_findFrom_101 rfl ?_
      refine z_iaload dX8_findFrom_103 ts2 (by omega) (by omega) (har_ne (by omega)) ?_
      refine z_iload dX8_findFrom_104 rfl ?_
      refine z_callV (T := mX8_lessen) (As := [_, _, _]) kX8_lessen ml_X8_37 ⟨by decide, by decide⟩ dX8_findFrom_106 rfl rfl (Nat.le_of_ble_eq_true rfl) sh_96 ⟨by decide, rfl⟩ (Nat.le_refl _) (Nat.le_refl _) (qX8_lessen hg f3 (by omega) (by omega) (by omega) (by omega) (by omega) (by omega) ?_)
      refine z_aload_n dX8_findFrom_109 rfl (by omega) ?_
      refine z_aload_n dX8_findFrom_110 rfl (by omega) ?_
      refine y_geta (k' := 5) fl_X8_34 rfl dX8_findFrom_111 ts0 (by decide) tg5 ?_
      refine z_iload dX8_findFrom_114 rfl ?_
      refine z_iaload dX8_findFrom_116 ts2 (by omega) (by omega) (har_ne (by omega)) ?_
      refine z_aload_n dX8_findFrom_117 rfl (by omega) ?_
      refine y_geta (k' := 4) fl_X8_31 rfl dX8_findFrom_118 ts0 (by decide) tg4 ?_
      refine z_iload dX8_findFrom_121 rfl ?_
      refine z_iaload dX8_findFrom_123 ts1 (by omega) (by omega) (har_ne (by omega)) ?_
      refine z_iload dX8_findFrom_124 rfl ?_
      refine z_callV (T := mX8_lessen) (As := [_, _, _]) kX8_lessen ml_X8_37 ⟨by decide, by decide⟩ dX8_findFrom_126 rfl rfl (Nat.le_of_ble_eq_true rfl) sh_96 ⟨by decide, rfl⟩ (Nat.le_refl _) (Nat.le_refl _) (qX8_lessen hg f4 (by omega) (by omega) (by omega) (by omega) (by omega) (by omega) ?_)
      refine y_iinc dX8_findFrom_129 (by decide) rfl rfl (by omega) (by omega) lss_8_6 ?_
      refine z_goto (tgt := 50) dX8_findFrom_132 (by decide) ?_
      have q := ih (i + 1) (by omega)
      have e9 : rpass (paC h t) (pbC h t) (psC h t) st str f (i + 1) = rlx (paC h t) (pbC h t) (psC h t) st str (rpass (paC h t) (pbC h t) (psC h t) st str f i) i := rfl
      rw [e9] at q
      first
        | (rw [rlx_t (show st + psC h t i ≤ str by show st + h (t + 3) i ≤ str; omega)] at q; exact q _)
        | (rw [rlx_f (show ¬ st + psC h t i ≤ str by show ¬ st + h (t + 3) i ≤ str; omega)] at q; exact q _)
theorem lpX8_ff3 {l : Launch} {g h : zH} {Q : zQt} {t s st str : Int} (hg : zGd g) (ht : t = 4 ∨ t = 14) (hb : HB h t) (st0 : 0 ≤ st) (st1 : st ≤ 99) (sr0 : 0 ≤ str) (sr1 : str ≤ 40) (K : ∀ (x6 x7 : Option zV), zW zX0 l mX8_findFrom ((SHL, g).1.length + zmc mX8_findFrom) (ztot (SHL, g) + zms mX8_findFrom) Q 141 [some (zr 96), some (zr t), some (zi s), some (zi st), some (zi str), some (zi (1 + (((h t 0 - 1).toNat : Nat) : Int))), x6, x7] [] (SHL, g) (har h 97 8 (rit (paC h t) (pbC h t) (psC h t) st str (h t 1).toNat (f0C s) ((h t 0 - 1).toNat)))) : ∀ (n i : Nat), i + n = (h t 0 - 1).toNat → ∀ (x6 x7 : Option zV), zW zX0 l mX8_findFrom ((SHL, g).1.length + zmc mX8_findFrom) (ztot (SHL, g) + zms mX8_findFrom) Q 38 [some (zr 96), some (zr t), some (zi s), some (zi st), some (zi str), some (zi (1 + (i : Int))), x6, x7] [] (SHL, g) (har h 97 8 (rit (paC h t) (pbC h t) (psC h t) st str (h t 1).toNat (f0C s) i)) := by
  obtain ⟨ts0, ts1, ts2, ts3, ts4, ts5, ts6, ts7, ts8, ts9, tg4, tg5, tg6, tg7, tg8, tg9, tg10, tg11, tg12⟩ := houseF hg ht
  obtain ⟨⟨m0, m1, m2, m3⟩, mp, -⟩ := id hb
  intro n
  induction n with
  | zero =>
    intro i hi x6 x7
    have e9 : i = (h t 0 - 1).toNat := by omega
    subst e9
    refine z_iload dX8_findFrom_38 rfl ?_
    refine z_aload_n dX8_findFrom_40 rfl (by omega) ?_
    refine y_geti (k' := 0) fl_X8_19 rfl dX8_findFrom_41 ts0 (by decide) (har_ne (by omega)) ?_
    refine z_icmp_ge (tgt := 141) dX8_findFrom_44 (by decide) (fun _ => ?_) (fun q => False.elim (by omega))
    exact K _ _
  | succ n ih =>
    intro i hi x6 x7
    refine z_iload dX8_findFrom_38 rfl ?_
    refine z_aload_n dX8_findFrom_40 rfl (by omega) ?_
    refine y_geti (k' := 0) fl_X8_19 rfl dX8_findFrom_41 ts0 (by decide) (har_ne (by omega)) ?_
    refine z_icmp_ge (tgt := 141) dX8_findFrom_44 (by decide) (fun q => False.elim (by omega)) (fun _ => ?_)
    refine z_iconst dX8_findFrom_47 ⟨by decide, by decide⟩ ?_
    refine z_istore dX8_findFrom_48 (by decide) rfl lss_8_6 ?_
    have K2 := lpX8_ff2 (l := l) (g := g) (h := h) (t := t) (s := s) (st := st) (str := str) (e := 1 + (i : Int)) (f := rit (paC h t) (pbC h t) (psC h t) st str (h t 1).toNat (f0C s) i) (Q := Q) hg ht hb st0 st1 sr0 sr1 (rit_B hb.pth (f0C_B s) st0 i) (fun x7 => by
      have q := ih (i + 1) (by omega)
      rw [show 1 + (((i + 1 : Nat)) : Int) = 1 + (i : Int) + 1 by omega] at q
      refine y_iinc dX8_findFrom_135 (by decide) rfl rfl (by omega) (by omega) lss_8_5 ?_
      refine z_goto (tgt := 38) dX8_findFrom_138 (by decide) ?_
      exact q _ _) _ 0 (Nat.zero_add _)
    exact K2 _
theorem qX8_findFrom {l : Launch} {g h : zH} {Q : zQt} {t : Int} (hg : zGd g) (ht : t = 4 ∨ t = 14) (hb : HB h t) {s st str : Int} (st0 : 0 ≤ st) (st1 : st ≤ 99) (sr0 : 0 ≤ str) (sr1 : str ≤ 40) (hQ : Q none (SHL, g) (har h 97 8 (ffC h t s st str))) : zC l mX8_findFrom [zr 96, zr t, zi s, zi st, zi str] (SHL, g) h Q := by
  obtain ⟨ts0, ts1, ts2, ts3, ts4, ts5, ts6, ts7, ts8, ts9, tg4, tg5, tg6, tg7, tg8, tg9, tg10, tg11, tg12⟩ := houseF hg ht
  refine z_method kX8_findFrom.1 rfl (Nat.le_of_ble_eq_true rfl) (fun hok hh => ?_)
  refine z_iconst dX8_findFrom_0 ⟨by decide, by decide⟩ ?_
  refine z_istore dX8_findFrom_1 (by decide) rfl lss_8_5 ?_
  have K1 := lpX8_ff1 (l := l) (g := g) (h := h) (t := t) (s := s) (st := st) (str := str) (Q := Q) hg ht (fun x6 x7 => by
    refine z_iconst dX8_findFrom_35 ⟨by decide, by decide⟩ ?_
    refine z_istore dX8_findFrom_36 (by decide) rfl lss_8_5 ?_
    have K3 := lpX8_ff3 (l := l) (g := g) (h := h) (t := t) (s := s) (st := st) (str := str) (Q := Q) hg ht hb st0 st1 sr0 sr1 (fun x6 x7 => by
      refine z_ret (v := none) dX8_findFrom_141 trivial (Nat.add_zero _).symm (Nat.add_zero _).symm rfl ?_
      exact hQ) _ 0 (Nat.zero_add _)
    exact K3 _ _) _ 0 (Nat.zero_add _)
  rw [har_0] at K1
  exact K1 _ _
theorem qX8_leadTo {l : Launch} {g h : zH} {Q : zQt} (hg : zGd g) {r : Int} (r0 : 0 ≤ r) (r1 : r < 8) (h1 : h 97 r < 268435456 → Q (some (zi 1)) (SHL, g) h) (h0 : ¬ h 97 r < 268435456 → Q (some (zi 0)) (SHL, g) h) : zC l mX8_leadTo [zr 96, zi r] (SHL, g) h Q := by
  refine z_method kX8_leadTo.1 rfl (Nat.le_of_ble_eq_true rfl) (fun hok hh => ?_)
  refine z_aload_n dX8_leadTo_0 rfl (by omega) ?_
  refine y_geta (k' := 0) fl_X8_9 rfl dX8_leadTo_1 sh_96 (by decide) (gf_96_0 hg) ?_
  refine z_iload_n dX8_leadTo_4 rfl ?_
  refine z_iaload dX8_leadTo_5 sh_97 (by omega) (by omega) rfl ?_
  refine z_ldc dX8_leadTo_6 kc_X8_18 ⟨by decide, by decide⟩ ?_
  refine z_icmp_ge (tgt := 15) dX8_leadTo_8 (by decide) (fun c8 => ?_) (fun c8 => ?_)
  ·
    refine z_iconst dX8_leadTo_15 ⟨by decide, by decide⟩ ?_
    refine z_ret (v := some (zi _)) dX8_leadTo_16 (Or.inl rfl) (Nat.add_zero _).symm (Nat.add_zero _).symm rfl ?_
    first | exact h1 (by omega) | exact h0 (by omega)
  ·
    refine z_iconst dX8_leadTo_11 ⟨by decide, by decide⟩ ?_
    refine z_goto (tgt := 16) dX8_leadTo_12 (by decide) ?_
    refine z_ret (v := some (zi _)) dX8_leadTo_16 (Or.inr rfl) (Nat.add_zero _).symm (Nat.add_zero _).symm rfl ?_
    first | exact h1 (by omega) | exact h0 (by omega)
theorem qX8_wearinessTo {l : Launch} {g h : zH} {Q : zQt} (hg : zGd g) {r : Int} (r0 : 0 ≤ r) (r1 : r < 8) (hQ : Q (some (zi (zdiv (h 97 r) 16))) (SHL, g) h) : zC l mX8_wearinessTo [zr 96, zi r] (SHL, g) h Q := by
  refine z_method kX8_wearinessTo.1 rfl (Nat.le_of_ble_eq_true rfl) (fun hok hh => ?_)
  refine z_aload_n dX8_wearinessTo_0 rfl (by omega) ?_
  refine y_geta (k' := 0) fl_X8_9 rfl dX8_wearinessTo_1 sh_96 (by decide) (gf_96_0 hg) ?_
  refine z_iload_n dX8_wearinessTo_4 rfl ?_
  refine z_iaload dX8_wearinessTo_5 sh_97 (by omega) (by omega) rfl ?_
  refine z_bipush dX8_wearinessTo_6 ⟨by decide, by decide⟩ ?_
  refine z_idiv dX8_wearinessTo_8 (by omega) ?_
  refine z_ret (v := some (zi _)) dX8_wearinessTo_9 trivial (Nat.add_zero _).symm (Nat.add_zero _).symm rfl ?_
  exact hQ
theorem qX8_pathsTo {l : Launch} {g h : zH} {Q : zQt} (hg : zGd g) {r : Int} (r0 : 0 ≤ r) (r1 : r < 8) (hQ : Q (some (zi (zmod (h 97 r) 16))) (SHL, g) h) : zC l mX8_pathsTo [zr 96, zi r] (SHL, g) h Q := by
  refine z_method kX8_pathsTo.1 rfl (Nat.le_of_ble_eq_true rfl) (fun hok hh => ?_)
  refine z_aload_n dX8_pathsTo_0 rfl (by omega) ?_
  refine y_geta (k' := 0) fl_X8_9 rfl dX8_pathsTo_1 sh_96 (by decide) (gf_96_0 hg) ?_
  refine z_iload_n dX8_pathsTo_4 rfl ?_
  refine z_iaload dX8_pathsTo_5 sh_97 (by omega) (by omega) rfl ?_
  refine z_bipush dX8_pathsTo_6 ⟨by decide, by decide⟩ ?_
  refine z_irem dX8_pathsTo_8 (by omega) ?_
  refine z_ret (v := some (zi _)) dX8_pathsTo_9 trivial (Nat.add_zero _).symm (Nat.add_zero _).symm rfl ?_
  exact hQ
/-- the least weary ways of d -/
def wfC (h : zH) (t d : Int) : Int → Int := ffC h t (h 25 d) (h 26 d) (h (t + 4) d)
def wayC (h : zH) (t d r w : Int) : Int := if 0 ≤ d ∧ d < h t 2 then (if 0 ≤ r ∧ r < h t 0 then (if 0 ≤ w ∧ w ≤ 1 then (if wfC h t d r < 268435456 then (if w = 0 then zdiv (wfC h t d r) 16 else zmod (wfC h t d r) 16) else -9) else -1) else -1) else -1
theorem SC_har97 (h : zH) (f : Int → Int) : SC h (har h 97 8 f) := fun a b q => har_ne (fun e => q (Or.inl e))
theorem qX9_way {l : Launch} {g h : zH} {Q : zQt} {t : Int} (hg : zGd g) (ht : t = 4 ∨ t = 14) (ht1 : g 1 1 = t) (hc : CB h t) {d r x : Int} (hQ : ∀ h', SC h h' → Q (some (zi (wayC h t d r x))) (SHL, g) h') : zC l mX9_way [zr 1, zi d, zi r, zi x] (SHL, g) h Q := by
  obtain ⟨ts0, ts1, ts2, ts3, ts4, ts5, ts6, ts7, ts8, ts9, tg4, tg5, tg6, tg7, tg8, tg9, tg10, tg11, tg12⟩ := houseF hg ht
  obtain ⟨⟨⟨m0, m1, m2, m3⟩, mp, md, mn⟩, ⟨nd, nc, nl⟩, ck, cs, cpp, cl, ct⟩ := id hc
  refine z_method kX9_way.1 rfl (Nat.le_of_ble_eq_true rfl) (fun hok hh => ?_)
  refine z_aload_n dX9_way_0 rfl (by omega) ?_
  refine y_geto (k' := 1) fl_X9_19 rfl dX9_way_1 sh_1 (by decide) ht1 ?_
  refine z_iload_n dX9_way_4 rfl ?_
  refine z_callV (T := mX4_hasDirector) (As := [_]) kX4_hasDirector ml_X9_115 ⟨by decide, by decide⟩ dX9_way_5 rfl rfl (Nat.le_of_ble_eq_true rfl) ts0 ⟨by decide, rfl⟩ (Nat.le_refl _) (Nat.le_refl _) (qX4_hasDirector hg ht (fun b5 => ?_) (fun b5 => ?_))
  ·
    refine z_if_eq (tgt := 31) dX9_way_8 (by decide) (fun q => False.elim (by omega)) (fun _ => ?_)
    refine z_aload_n dX9_way_11 rfl (by omega) ?_
    refine y_geto (k' := 1) fl_X9_19 rfl dX9_way_12 sh_1 (by decide) ht1 ?_
    refine z_iload_n dX9_way_15 rfl ?_
    refine z_callV (T := mX4_hasRoom) (As := [_]) kX4_hasRoom ml_X9_175 ⟨by decide, by decide⟩ dX9_way_16 rfl rfl (Nat.le_of_ble_eq_true rfl) ts0 ⟨by decide, rfl⟩ (Nat.le_refl _) (Nat.le_refl _) (qX4_hasRoom hg ht (fun b16 => ?_) (fun b16 => ?_))
    ·
      refine z_if_eq (tgt := 31) dX9_way_19 (by decide) (fun q => False.elim (by omega)) (fun _ => ?_)
      refine z_iload_n dX9_way_22 rfl ?_
      refine z_if_lt (tgt := 31) dX9_way_23 (by decide) (fun c23 => ?_) (fun c23 => ?_)
      ·
        refine z_iconst dX9_way_31 ⟨by decide, by decide⟩ ?_
        refine z_ret (v := some (zi _)) dX9_way_32 trivial (Nat.add_zero _).symm (Nat.add_zero _).symm rfl ?_
        replace hQ := hQ h (SC_refl h)
        first
          | (rw [wayC, if_neg b5] at hQ; exact hQ)
          | (rw [wayC, if_pos b5, if_neg b16] at hQ; exact hQ)
          | (rw [wayC, if_pos b5, if_pos b16, if_neg (by omega)] at hQ; exact hQ)
      ·
        refine z_iload_n dX9_way_26 rfl ?_
        refine z_iconst dX9_way_27 ⟨by decide, by decide⟩ ?_
        refine z_icmp_le (tgt := 33) dX9_way_28 (by decide) (fun c28 => ?_) (fun c28 => ?_)
        ·
          have f1 : (0 ≤ h 25 d ∧ h 25 d < h t 0) ∧ (0 ≤ h 26 d ∧ h 26 d ≤ 99) ∧ _ := nd d b5.1 b5.2
          have f2 := md d b5.1 b5.2
          refine z_aload_n dX9_way_33 rfl (by omega) ?_
          refine y_geto (k' := 7) fl_X9_56 rfl dX9_way_34 sh_1 (by decide) (gf_1_7 hg) ?_
          refine z_aload_n dX9_way_37 rfl (by omega) ?_
          refine y_geto (k' := 1) fl_X9_19 rfl dX9_way_38 sh_1 (by decide) ht1 ?_
          refine z_aload_n dX9_way_41 rfl (by omega) ?_
          refine y_geto (k' := 3) fl_X9_29 rfl dX9_way_42 sh_1 (by decide) (gf_1_3 hg) ?_
          refine y_geta (k' := 0) fl_X9_127 rfl dX9_way_45 sh_24 (by decide) (gf_24_0 hg) ?_
          refine z_iload_n dX9_way_48 rfl ?_
          refine z_iaload dX9_way_49 sh_25 (by omega) (by omega) rfl ?_
          refine z_aload_n dX9_way_50 rfl (by omega) ?_
          refine y_geto (k' := 3) fl_X9_29 rfl dX9_way_51 sh_1 (by decide) (gf_1_3 hg) ?_
          refine y_geta (k' := 1) fl_X9_121 rfl dX9_way_54 sh_24 (by decide) (gf_24_1 hg) ?_
          refine z_iload_n dX9_way_57 rfl ?_
          refine z_iaload dX9_way_58 sh_26 (by omega) (by omega) rfl ?_
          refine z_aload_n dX9_way_59 rfl (by omega) ?_
          refine y_geto (k' := 1) fl_X9_19 rfl dX9_way_60 sh_1 (by decide) ht1 ?_
          refine y_geta (k' := 7) fl_X9_118 rfl dX9_way_63 ts0 (by decide) tg7 ?_
          refine z_iload_n dX9_way_66 rfl ?_
          refine z_iaload dX9_way_67 ts4 (by omega) (by omega) rfl ?_
          refine z_callV (T := mX8_findFrom) (As := [_, _, _, _]) kX8_findFrom ml_X9_212 ⟨by decide, by decide⟩ dX9_way_68 rfl rfl (Nat.le_of_ble_eq_true rfl) sh_96 ⟨by decide, rfl⟩ (Nat.le_refl _) (Nat.le_refl _) (qX8_findFrom hg ht hc.1 (by omega) (by omega) (by omega) (by omega) ?_)
          have e9 : har h 97 8 (ffC h t (h 25 d) (h 26 d) (h (t + 4) d)) 97 r = wfC h t d r := har_at b16.1 (by omega)
          refine z_aload_n dX9_way_71 rfl (by omega) ?_
          refine y_geto (k' := 7) fl_X9_56 rfl dX9_way_72 sh_1 (by decide) (gf_1_7 hg) ?_
          refine z_iload_n dX9_way_75 rfl ?_
          refine z_callV (T := mX8_leadTo) (As := [_]) kX8_leadTo ml_X9_216 ⟨by decide, by decide⟩ dX9_way_76 rfl rfl (Nat.le_of_ble_eq_true rfl) sh_96 ⟨by decide, rfl⟩ (Nat.le_refl _) (Nat.le_refl _) (qX8_leadTo hg (by omega) (by omega) (fun b76 => ?_) (fun b76 => ?_))
          ·
            rw [e9] at b76
            refine z_if_ne (tgt := 85) dX9_way_79 (by decide) (fun _ => ?_) (fun q => False.elim (by omega))
            refine z_iload_n dX9_way_85 rfl ?_
            refine z_if_ne (tgt := 100) dX9_way_86 (by decide) (fun c86 => ?_) (fun c86 => ?_)
            ·
              refine z_aload_n dX9_way_100 rfl (by omega) ?_
              refine y_geto (k' := 7) fl_X9_56 rfl dX9_way_101 sh_1 (by decide) (gf_1_7 hg) ?_
              refine z_iload_n dX9_way_104 rfl ?_
              refine z_callV (T := mX8_pathsTo) (As := [_]) kX8_pathsTo ml_X9_222 ⟨by decide, by decide⟩ dX9_way_105 rfl rfl (Nat.le_of_ble_eq_true rfl) sh_96 ⟨by decide, rfl⟩ (Nat.le_refl _) (Nat.le_refl _) (qX8_pathsTo hg (by omega) (by omega) ?_)
              rw [e9]
              refine z_ret (v := some (zi _)) dX9_way_108 trivial (Nat.add_zero _).symm (Nat.add_zero _).symm rfl ?_
              replace hQ := hQ _ (SC_har97 h (ffC h t (h 25 d) (h 26 d) (h (t + 4) d)))
              first
                | (rw [wayC, if_pos b5, if_pos b16, if_pos (by omega), if_pos b76, if_pos (by omega)] at hQ; exact hQ)
                | (rw [wayC, if_pos b5, if_pos b16, if_pos (by omega), if_pos b76, if_neg (by omega)] at hQ; exact hQ)
            ·
              refine z_aload_n dX9_way_89 rfl (by omega) ?_
              refine y_geto (k' := 7) fl_X9_56 rfl dX9_way_90 sh_1 (by decide) (gf_1_7 hg) ?_
              refine z_iload_n dX9_way_93 rfl ?_
              refine z_callV (T := mX8_wearinessTo) (As := [_]) kX8_wearinessTo ml_X9_219 ⟨by decide, by decide⟩ dX9_way_94 rfl rfl (Nat.le_of_ble_eq_true rfl) sh_96 ⟨by decide, rfl⟩ (Nat.le_refl _) (Nat.le_refl _) (qX8_wearinessTo hg (by omega) (by omega) ?_)
              rw [e9]
              refine z_goto (tgt := 108) dX9_way_97 (by decide) ?_
              refine z_ret (v := some (zi _)) dX9_way_108 trivial (Nat.add_zero _).symm (Nat.add_zero _).symm rfl ?_
              replace hQ := hQ _ (SC_har97 h (ffC h t (h 25 d) (h 26 d) (h (t + 4) d)))
              first
                | (rw [wayC, if_pos b5, if_pos b16, if_pos (by omega), if_pos b76, if_pos (by omega)] at hQ; exact hQ)
                | (rw [wayC, if_pos b5, if_pos b16, if_pos (by omega), if_pos b76, if_neg (by omega)] at hQ; exact hQ)
          ·
            rw [e9] at b76
            refine z_if_ne (tgt := 85) dX9_way_79 (by decide) (fun q => False.elim (by omega)) (fun _ => ?_)
            refine z_bipush dX9_way_82 ⟨by decide, by decide⟩ ?_
            refine z_ret (v := some (zi _)) dX9_way_84 trivial (Nat.add_zero _).symm (Nat.add_zero _).symm rfl ?_
            replace hQ := hQ _ (SC_har97 h (ffC h t (h 25 d) (h 26 d) (h (t + 4) d)))
            first
              | (rw [wayC, if_pos b5, if_pos b16, if_pos (by omega), if_neg b76] at hQ; exact hQ)
        ·
          refine z_iconst dX9_way_31 ⟨by decide, by decide⟩ ?_
          refine z_ret (v := some (zi _)) dX9_way_32 trivial (Nat.add_zero _).symm (Nat.add_zero _).symm rfl ?_
          replace hQ := hQ h (SC_refl h)
          first
            | (rw [wayC, if_neg b5] at hQ; exact hQ)
            | (rw [wayC, if_pos b5, if_neg b16] at hQ; exact hQ)
            | (rw [wayC, if_pos b5, if_pos b16, if_neg (by omega)] at hQ; exact hQ)
    ·
      refine z_if_eq (tgt := 31) dX9_way_19 (by decide) (fun _ => ?_) (fun q => False.elim (by omega))
      refine z_iconst dX9_way_31 ⟨by decide, by decide⟩ ?_
      refine z_ret (v := some (zi _)) dX9_way_32 trivial (Nat.add_zero _).symm (Nat.add_zero _).symm rfl ?_
      replace hQ := hQ h (SC_refl h)
      first
        | (rw [wayC, if_neg b5] at hQ; exact hQ)
        | (rw [wayC, if_pos b5, if_neg b16] at hQ; exact hQ)
        | (rw [wayC, if_pos b5, if_pos b16, if_neg (by omega)] at hQ; exact hQ)
  ·
    refine z_if_eq (tgt := 31) dX9_way_8 (by decide) (fun _ => ?_) (fun q => False.elim (by omega))
    refine z_iconst dX9_way_31 ⟨by decide, by decide⟩ ?_
    refine z_ret (v := some (zi _)) dX9_way_32 trivial (Nat.add_zero _).symm (Nat.add_zero _).symm rfl ?_
    replace hQ := hQ h (SC_refl h)
    first
      | (rw [wayC, if_neg b5] at hQ; exact hQ)
      | (rw [wayC, if_pos b5, if_neg b16] at hQ; exact hQ)
      | (rw [wayC, if_pos b5, if_pos b16, if_neg (by omega)] at hQ; exact hQ)
theorem zdiv16 {x : Int} (h0 : 0 ≤ x) (h1 : x ≤ 268435456) : zdiv x 16 = x / 16 := by
  have e1 : (Int32.ofInt x).toInt = x := of_toInt (by unfold r32; omega)
  have e2 : (Int32.ofInt 16).toInt = 16 := by decide
  have e3 := lg_idiv_nonneg (x := Int32.ofInt x) (y := Int32.ofInt 16) (by omega) (by omega)
  unfold zdiv
  rw [e3, e1, e2]
/-- how weary all are together, over the first k -/
def togC (h : zH) (t : Int) : Nat → Int → Int
  | 0 => fun _ => 0
  | k + 1 => fun r => if 0 ≤ r ∧ r < h t 0 then (if wfC h t k r < 268435456 then togC h t k r + zdiv (wfC h t k r) 16 else 268435456) else togC h t k r
theorem togC_B {h : zH} {t : Int} (hc : CB h t) : ∀ k : Nat, (k : Int) ≤ h t 2 → ∀ r, 0 ≤ r → r < 8 → 0 ≤ togC h t k r ∧ togC h t k r ≤ 268435456 + 16777216 * k := by
  intro k
  induction k with
  | zero => intro _ r _ _; exact ⟨Int.le_refl 0, show (0 : Int) ≤ 268435456 + 16777216 * ((0 : Nat) : Int) by omega⟩
  | succ k ih =>
    intro hk r r0 r1
    have a := ih (by omega) r r0 r1
    have n := (hc.2.1.1 k (by omega) (by omega)).2.1
    have b := ffC_B (s := h 25 k) (st := h 26 k) (str := h (t + 4) k) hc.1 n.1 r r0 r1
    show 0 ≤ (if 0 ≤ r ∧ r < h t 0 then (if wfC h t k r < 268435456 then togC h t k r + zdiv (wfC h t k r) 16 else 268435456) else togC h t k r) ∧ (if 0 ≤ r ∧ r < h t 0 then (if wfC h t k r < 268435456 then togC h t k r + zdiv (wfC h t k r) 16 else 268435456) else togC h t k r) ≤ _
    have c : 0 ≤ wfC h t k r ∧ wfC h t k r ≤ 268435456 := b
    rw [zdiv16 c.1 c.2]
    split
    · split <;> omega
    · omega
/-- u below i is v -/
def mixN (u v : Int → Int) (i : Nat) : Int → Int := fun r => if 0 ≤ r ∧ r < i then v r else u r
theorem mixN_succ (u v : Int → Int) (i : Nat) : mixN u v (i + 1) = fu (mixN u v i) i (v i) := by
  funext r
  unfold mixN fu
  by_cases e : r = i
  · subst e; rw [if_pos (by omega), if_pos rfl]
  · rw [if_neg e]
    by_cases c : 0 ≤ r ∧ r < i
    · show _ = (if 0 ≤ r ∧ r < (i : Int) then v r else u r)
      rw [if_pos c, if_pos (by omega)]
    · show _ = (if 0 ≤ r ∧ r < (i : Int) then v r else u r)
      rw [if_neg c, if_neg (by omega)]
theorem mixN_0 (u v : Int → Int) : mixN u v 0 = u := by funext r; unfold mixN; rw [if_neg (by omega)]
theorem mixN_at (u v : Int → Int) (i : Nat) : mixN u v i i = u i := by unfold mixN; rw [if_neg (by omega)]
def HW (h : zH) (f u : Int → Int) : zH := har (har h 98 8 u) 97 8 f
theorem HW_ne {h : zH} {f u : Int → Int} {a b : Int} (h1 : a ≠ 97) (h2 : a ≠ 98) : HW h f u a b = h a b := (har_ne h1).trans (har_ne h2)
theorem HW_97 {h : zH} {f u : Int → Int} {b : Int} (h1 : 0 ≤ b) (h2 : b < 8) : HW h f u 97 b = f b := har_at h1 h2
theorem HW_98 {h : zH} {f u : Int → Int} {b : Int} (h1 : 0 ≤ b) (h2 : b < 8) : HW h f u 98 b = u b := (har_ne (by decide)).trans (har_at h1 h2)
theorem HW_up {h : zH} {f u : Int → Int} {k v : Int} (h1 : 0 ≤ k) (h2 : k < 8) : zup (HW h f u) 98 k v = HW h f (fu u k v) := by
  unfold HW
  rw [har_zup 8 f (by decide), har_up h1 h2]
theorem HW_HB {h : zH} {t : Int} {f u : Int → Int} (ht : t = 4 ∨ t = 14) (hb : HB h t) : HB (HW h f u) t := HB_congr (fun a b _ _ => HW_ne (by omega) (by omega)) hb
theorem ffC_congr {h h' : zH} {t : Int} (e : ∀ a b, t ≤ a → a ≤ t + 9 → h' a b = h a b) (s st str : Int) : ffC h' t s st str = ffC h t s st str := by
  have e0 := fun b => e t b (by omega) (by omega)
  have e1 := fun b => e (t + 1) b (by omega) (by omega)
  have e2 := fun b => e (t + 2) b (by omega) (by omega)
  have e3 := fun b => e (t + 3) b (by omega) (by omega)
  unfold ffC paC pbC psC
  simp only [e0, e1, e2, e3]
theorem HW_ff {h : zH} {t : Int} {f u : Int → Int} (ht : t = 4 ∨ t = 14) (s st str : Int) : ffC (HW h f u) t s st str = ffC h t s st str := ffC_congr (fun a b _ _ => HW_ne (by omega) (by omega)) s st str
def mtC (u : Int → Int) : Nat → Int × Int
  | 0 => (-9, 268435456)
  | i + 1 => if u i < (mtC u i).2 then ((i : Int), u i) else mtC u i
theorem mtC_t {u : Int → Int} {i : Nat} (e : u i < (mtC u i).2) : mtC u (i + 1) = ((i : Int), u i) := if_pos e
theorem mtC_f {u : Int → Int} {i : Nat} (e : ¬ u i < (mtC u i).2) : mtC u (i + 1) = mtC u i := if_neg e
def meetC (h : zH) (t : Int) : Int × Int := mtC (togC h t (h t 2).toNat) (h t 0).toNat
def HM (h : zH) (f u : Int → Int) (x : Int × Int) : zH := zup (zup (HW h f u) 96 2 x.1) 96 3 x.2
theorem HM_up (h : zH) (f u : Int → Int) (x : Int × Int) (a b : Int) : zup (zup (HM h f u x) 96 2 a) 96 3 b = HM h f u (a, b) := by
  funext r k
  unfold HM
  by_cases e3 : r = 96 ∧ k = 3
  · obtain ⟨rfl, rfl⟩ := e3
    rw [zup_same, zup_same]
  · rw [zup_ne e3, zup_ne e3]
    by_cases e2 : r = 96 ∧ k = 2
    · obtain ⟨rfl, rfl⟩ := e2
      rw [zup_same, zup_same]
    · rw [zup_ne e2, zup_ne e2, zup_ne e3, zup_ne e2]
theorem HM_ne {h : zH} {f u : Int → Int} {x : Int × Int} {a b : Int} (h1 : a ≠ 96) : HM h f u x a b = HW h f u a b := (zup_ne (fun q => h1 q.1)).trans (zup_ne (fun q => h1 q.1))
theorem HM_2 (h : zH) (f u : Int → Int) (x : Int × Int) : HM h f u x 96 2 = x.1 := (zup_ne (fun q => by have := q.2; omega)).trans (zup_same _ _ _ _)
theorem HM_3 (h : zH) (f u : Int → Int) (x : Int × Int) : HM h f u x 96 3 = x.2 := zup_same _ _ _ _
theorem HM_SC (h : zH) (f u : Int → Int) (x : Int × Int) : SC h (HM h f u x) := fun a b q => by
  unfold HM
  rw [zup_ne (fun z => q (by unfold cscr; omega)), zup_ne (fun z => q (by unfold cscr; omega))]
  exact HW_ne (fun z => q (by unfold cscr; omega)) (fun z => q (by unfold cscr; omega))
theorem lpX8_fm1 {l : Launch} {g h : zH} {Q : zQt} {t : Int} (hg : zGd g) (ht : t = 4 ∨ t = 14) (K : ∀ (x4 : Option zV), zW zX0 l mX8_findMeeting ((SHL, g).1.length + zmc mX8_findMeeting) (ztot (SHL, g) + zms mX8_findMeeting) Q 21 [some (zr 96), some (zr t), some (zr 24), some (zi ((8 : Nat) : Int)), x4] [] (SHL, g) (har h 98 (8) (fun _ => 0))) : ∀ (n i : Nat), i + n = 8 → ∀ (x4 : Option zV), zW zX0 l mX8_findMeeting ((SHL, g).1.length + zmc mX8_findMeeting) (ztot (SHL, g) + zms mX8_findMeeting) Q 2 [some (zr 96), some (zr t), some (zr 24), some (zi (i : Int)), x4] [] (SHL, g) (har h 98 i (fun _ => 0)) := by
  obtain ⟨ts0, ts1, ts2, ts3, ts4, ts5, ts6, ts7, ts8, ts9, tg4, tg5, tg6, tg7, tg8, tg9, tg10, tg11, tg12⟩ := houseF hg ht
  intro n
  induction n with
  | zero =>
    intro i hi x4
    have e9 : i = 8 := by omega
    subst e9
    refine z_iload_n dX8_findMeeting_2 rfl ?_
    refine z_bipush dX8_findMeeting_3 ⟨by decide, by decide⟩ ?_
    refine z_icmp_ge (tgt := 21) dX8_findMeeting_5 (by decide) (fun _ => ?_) (fun q => False.elim (by omega))
    exact K _
  | succ n ih =>
    intro i hi x4
    refine z_iload_n dX8_findMeeting_2 rfl ?_
    refine z_bipush dX8_findMeeting_3 ⟨by decide, by decide⟩ ?_
    refine z_icmp_ge (tgt := 21) dX8_findMeeting_5 (by decide) (fun q => False.elim (by omega)) (fun _ => ?_)
    refine z_aload_n dX8_findMeeting_8 rfl (by omega) ?_
    refine y_geta (k' := 1) fl_X8_15 rfl dX8_findMeeting_9 sh_96 (by decide) (gf_96_1 hg) ?_
    refine z_iload_n dX8_findMeeting_12 rfl ?_
    refine z_iconst dX8_findMeeting_13 ⟨by decide, by decide⟩ ?_
    refine z_iastore dX8_findMeeting_14 sh_98 (by omega) (by omega) ?_
    refine y_iinc dX8_findMeeting_15 (by decide) rfl rfl (by omega) (by omega) lss_5_3 ?_
    refine z_goto (tgt := 2) dX8_findMeeting_18 (by decide) ?_
    have q := ih (i + 1) (by omega)
    rw [har_succ] at q
    exact q _
theorem lpX8_fm2 {l : Launch} {g h : zH} {Q : zQt} {t : Int} {k : Nat} (hg : zGd g) (ht : t = 4 ∨ t = 14) (hc : CB h t) (hk : (k : Int) < h t 2) (K : zW zX0 l mX8_findMeeting ((SHL, g).1.length + zmc mX8_findMeeting) (ztot (SHL, g) + zms mX8_findMeeting) Q 107 [some (zr 96), some (zr t), some (zr 24), some (zi (k : Int)), some (zi (((h t 0).toNat : Nat) : Int))] [] (SHL, g) (HW h (wfC h t k) (mixN (togC h t k) (togC h t (k + 1)) ((h t 0).toNat)))) : ∀ (n i : Nat), i + n = (h t 0).toNat → zW zX0 l mX8_findMeeting ((SHL, g).1.length + zmc mX8_findMeeting) (ztot (SHL, g) + zms mX8_findMeeting) Q 57 [some (zr 96), some (zr t), some (zr 24), some (zi (k : Int)), some (zi (i : Int))] [] (SHL, g) (HW h (wfC h t k) (mixN (togC h t k) (togC h t (k + 1)) i)) := by
  obtain ⟨ts0, ts1, ts2, ts3, ts4, ts5, ts6, ts7, ts8, ts9, tg4, tg5, tg6, tg7, tg8, tg9, tg10, tg11, tg12⟩ := houseF hg ht
  obtain ⟨⟨⟨m0, m1, m2, m3⟩, mp, md, mn⟩, ⟨nd, nc, nl⟩, ck, cs, cpp, cl, ct⟩ := id hc
  intro n
  induction n with
  | zero =>
    intro i hi 
    have e9 : i = (h t 0).toNat := by omega
    subst e9
    refine z_iload dX8_findMeeting_57 rfl ?_
    refine z_aload_n dX8_findMeeting_59 rfl (by omega) ?_
    refine y_geti (k' := 0) fl_X8_19 rfl dX8_findMeeting_60 ts0 (by decide) (HW_ne (by omega) (by omega)) ?_
    refine z_icmp_ge (tgt := 107) dX8_findMeeting_63 (by decide) (fun _ => ?_) (fun q => False.elim (by omega))
    exact K
  | succ n ih =>
    intro i hi 
    have f0 := (nd k (by omega) hk).2.1
    have f1 : 0 ≤ wfC h t k i ∧ wfC h t k i ≤ 268435456 := ffC_B (s := h 25 k) (st := h 26 k) (str := h (t + 4) k) hc.1 f0.1 i (by omega) (by omega)
    have f2 := zdiv16 f1.1 f1.2
    have f3 := togC_B hc k (by omega) i (by omega) (by omega)
    have e9 : HW h (wfC h t k) (mixN (togC h t k) (togC h t (k + 1)) i) 97 i = wfC h t k i := HW_97 (by omega) (by omega)
    refine z_iload dX8_findMeeting_57 rfl ?_
    refine z_aload_n dX8_findMeeting_59 rfl (by omega) ?_
    refine y_geti (k' := 0) fl_X8_19 rfl dX8_findMeeting_60 ts0 (by decide) (HW_ne (by omega) (by omega)) ?_
    refine z_icmp_ge (tgt := 107) dX8_findMeeting_63 (by decide) (fun q => False.elim (by omega)) (fun _ => ?_)
    refine z_aload_n dX8_findMeeting_66 rfl (by omega) ?_
    refine y_geta (k' := 1) fl_X8_15 rfl dX8_findMeeting_67 sh_96 (by decide) (gf_96_1 hg) ?_
    refine z_iload dX8_findMeeting_70 rfl ?_
    refine z_aload_n dX8_findMeeting_72 rfl (by omega) ?_
    refine z_iload dX8_findMeeting_73 rfl ?_
    refine z_callV (T := mX8_leadTo) (As := [_]) kX8_leadTo ml_X8_65 ⟨by decide, by decide⟩ dX8_findMeeting_75 rfl rfl (Nat.le_of_ble_eq_true rfl) sh_96 ⟨by decide, rfl⟩ (Nat.le_refl _) (Nat.le_refl _) (qX8_leadTo hg (by omega) (by omega) (fun b75 => ?_) (fun b75 => ?_))
    ·
      rw [e9] at b75
      refine z_if_eq (tgt := 98) dX8_findMeeting_78 (by decide) (fun q => False.elim (by omega)) (fun _ => ?_)
      refine z_aload_n dX8_findMeeting_81 rfl (by omega) ?_
      refine y_geta (k' := 1) fl_X8_15 rfl dX8_findMeeting_82 sh_96 (by decide) (gf_96_1 hg) ?_
      refine z_iload dX8_findMeeting_85 rfl ?_
      refine z_iaload dX8_findMeeting_87 sh_98 (by omega) (by omega) ((HW_98 (by omega) (by omega)).trans (mixN_at _ _ i)) ?_
      refine z_aload_n dX8_findMeeting_88 rfl (by omega) ?_
      refine z_iload dX8_findMeeting_89 rfl ?_
      refine z_callV (T := mX8_wearinessTo) (As := [_]) kX8_wearinessTo ml_X8_69 ⟨by decide, by decide⟩ dX8_findMeeting_91 rfl rfl (Nat.le_of_ble_eq_true rfl) sh_96 ⟨by decide, rfl⟩ (Nat.le_refl _) (Nat.le_refl _) (qX8_wearinessTo hg (by omega) (by omega) ?_)
      rw [e9]
      refine y_iadd dX8_findMeeting_94 (by omega) (by omega) ?_
      refine z_goto (tgt := 100) dX8_findMeeting_95 (by decide) ?_
      refine z_iastore dX8_findMeeting_100 sh_98 (by omega) (by omega) ?_
      refine y_iinc dX8_findMeeting_101 (by decide) rfl rfl (by omega) (by omega) lss_5_4 ?_
      refine z_goto (tgt := 57) dX8_findMeeting_104 (by decide) ?_
      have q := ih (i + 1) (by omega)
      rw [mixN_succ] at q
      rw [HW_up (by omega) (by omega)]
      first
        | (rw [show togC h t (k + 1) i = togC h t k i + zdiv (wfC h t k i) 16 from (if_pos (by omega)).trans (if_pos b75)] at q; exact q)
        | (rw [show togC h t (k + 1) i = 268435456 from (if_pos (by omega)).trans (if_neg b75)] at q; exact q)
    ·
      rw [e9] at b75
      refine z_if_eq (tgt := 98) dX8_findMeeting_78 (by decide) (fun _ => ?_) (fun q => False.elim (by omega))
      refine z_ldc dX8_findMeeting_98 kc_X8_18 ⟨by decide, by decide⟩ ?_
      refine z_iastore dX8_findMeeting_100 sh_98 (by omega) (by omega) ?_
      refine y_iinc dX8_findMeeting_101 (by decide) rfl rfl (by omega) (by omega) lss_5_4 ?_
      refine z_goto (tgt := 57) dX8_findMeeting_104 (by decide) ?_
      have q := ih (i + 1) (by omega)
      rw [mixN_succ] at q
      rw [HW_up (by omega) (by omega)]
      first
        | (rw [show togC h t (k + 1) i = togC h t k i + zdiv (wfC h t k i) 16 from (if_pos (by omega)).trans (if_pos b75)] at q; exact q)
        | (rw [show togC h t (k + 1) i = 268435456 from (if_pos (by omega)).trans (if_neg b75)] at q; exact q)
theorem tog_mix {h : zH} {t : Int} (k : Nat) : mixN (togC h t k) (togC h t (k + 1)) (h t 0).toNat = togC h t (k + 1) := by
  funext r
  unfold mixN
  split
  · rfl
  · next c =>
    show _ = (if 0 ≤ r ∧ r < h t 0 then _ else _)
    rw [if_neg (by omega)]
theorem lpX8_fm3 {l : Launch} {g h : zH} {Q : zQt} {t : Int} (hg : zGd g) (ht : t = 4 ∨ t = 14) (hc : CB h t) (K : ∀ f x4, zW zX0 l mX8_findMeeting ((SHL, g).1.length + zmc mX8_findMeeting) (ztot (SHL, g) + zms mX8_findMeeting) Q 113 [some (zr 96), some (zr t), some (zr 24), some (zi ((h t 2).toNat : Int)), x4] [] (SHL, g) (HW h f (togC h t (h t 2).toNat))) : ∀ (n i : Nat), i + n = (h t 2).toNat → ∀ f x4, zW zX0 l mX8_findMeeting ((SHL, g).1.length + zmc mX8_findMeeting) (ztot (SHL, g) + zms mX8_findMeeting) Q 23 [some (zr 96), some (zr t), some (zr 24), some (zi (i : Int)), x4] [] (SHL, g) (HW h f (togC h t i)) := by
  obtain ⟨ts0, ts1, ts2, ts3, ts4, ts5, ts6, ts7, ts8, ts9, tg4, tg5, tg6, tg7, tg8, tg9, tg10, tg11, tg12⟩ := houseF hg ht
  obtain ⟨⟨⟨m0, m1, m2, m3⟩, mp, md, mn⟩, ⟨nd, nc, nl⟩, ck, cs, cpp, cl, ct⟩ := id hc
  intro n
  induction n with
  | zero =>
    intro i hi f x4
    have e9 : i = (h t 2).toNat := by omega
    subst e9
    refine z_iload_n dX8_findMeeting_23 rfl ?_
    refine z_aload_n dX8_findMeeting_24 rfl (by omega) ?_
    refine y_geti (k' := 2) fl_X8_47 rfl dX8_findMeeting_25 ts0 (by decide) (HW_ne (by omega) (by omega)) ?_
    refine z_icmp_ge (tgt := 113) dX8_findMeeting_28 (by decide) (fun _ => ?_) (fun q => False.elim (by omega))
    exact K _ _
  | succ n ih =>
    intro i hi f x4
    have f1 : (0 ≤ h 25 i ∧ h 25 i < h t 0) ∧ (0 ≤ h 26 i ∧ h 26 i ≤ 99) ∧ _ := nd i (by omega) (by omega)
    have f2 := md i (by omega) (by omega)
    refine z_iload_n dX8_findMeeting_23 rfl ?_
    refine z_aload_n dX8_findMeeting_24 rfl (by omega) ?_
    refine y_geti (k' := 2) fl_X8_47 rfl dX8_findMeeting_25 ts0 (by decide) (HW_ne (by omega) (by omega)) ?_
    refine z_icmp_ge (tgt := 113) dX8_findMeeting_28 (by decide) (fun q => False.elim (by omega)) (fun _ => ?_)
    refine z_aload_n dX8_findMeeting_31 rfl (by omega) ?_
    refine z_aload_n dX8_findMeeting_32 rfl (by omega) ?_
    refine z_aload_n dX8_findMeeting_33 rfl (by omega) ?_
    refine y_geta (k' := 0) fl_X8_50 rfl dX8_findMeeting_34 sh_24 (by decide) (gf_24_0 hg) ?_
    refine z_iload_n dX8_findMeeting_37 rfl ?_
    refine z_iaload dX8_findMeeting_38 sh_25 (by omega) (by omega) (HW_ne (by omega) (by omega)) ?_
    refine z_aload_n dX8_findMeeting_39 rfl (by omega) ?_
    refine y_geta (k' := 1) fl_X8_55 rfl dX8_findMeeting_40 sh_24 (by decide) (gf_24_1 hg) ?_
    refine z_iload_n dX8_findMeeting_43 rfl ?_
    refine z_iaload dX8_findMeeting_44 sh_26 (by omega) (by omega) (HW_ne (by omega) (by omega)) ?_
    refine z_aload_n dX8_findMeeting_45 rfl (by omega) ?_
    refine y_geta (k' := 7) fl_X8_58 rfl dX8_findMeeting_46 ts0 (by decide) tg7 ?_
    refine z_iload_n dX8_findMeeting_49 rfl ?_
    refine z_iaload dX8_findMeeting_50 ts4 (by omega) (by omega) (HW_ne (by omega) (by omega)) ?_
    refine z_callV (T := mX8_findFrom) (As := [_, _, _, _]) kX8_findFrom ml_X8_61 ⟨by decide, by decide⟩ dX8_findMeeting_51 rfl rfl (Nat.le_of_ble_eq_true rfl) sh_96 ⟨by decide, rfl⟩ (Nat.le_refl _) (Nat.le_refl _) (qX8_findFrom hg ht (HW_HB ht hc.1) (by omega) (by omega) (by omega) (by omega) ?_)
    rw [HW_ff ht, show har (HW h f (togC h t i)) 97 8 (ffC h t (h 25 i) (h 26 i) (h (t + 4) i)) = HW h (wfC h t i) (togC h t i) from har_har _ _ _ _ _]
    refine z_iconst dX8_findMeeting_54 ⟨by decide, by decide⟩ ?_
    refine z_istore dX8_findMeeting_55 (by decide) rfl lss_5_4 ?_
    have K2 := lpX8_fm2 (l := l) (Q := Q) (k := i) hg ht hc (by omega) (by
      rw [tog_mix]
      refine y_iinc dX8_findMeeting_107 (by decide) rfl rfl (by omega) (by omega) lss_5_3 ?_
      refine z_goto (tgt := 23) dX8_findMeeting_110 (by decide) ?_
      exact ih (i + 1) (by omega) _ _) _ 0 (Nat.zero_add _)
    rw [mixN_0] at K2
    exact K2
theorem lpX8_fm4 {l : Launch} {g h : zH} {Q : zQt} {t : Int} {f u : Int → Int} (hg : zGd g) (ht : t = 4 ∨ t = 14) (hc : CB h t) (K : ∀ (x4 : Option zV), zW zX0 l mX8_findMeeting ((SHL, g).1.length + zmc mX8_findMeeting) (ztot (SHL, g) + zms mX8_findMeeting) Q 169 [some (zr 96), some (zr t), some (zr 24), some (zi (((h t 0).toNat : Nat) : Int)), x4] [] (SHL, g) (HM h f u (mtC u ((h t 0).toNat)))) : ∀ (n i : Nat), i + n = (h t 0).toNat → ∀ (x4 : Option zV), zW zX0 l mX8_findMeeting ((SHL, g).1.length + zmc mX8_findMeeting) (ztot (SHL, g) + zms mX8_findMeeting) Q 127 [some (zr 96), some (zr t), some (zr 24), some (zi (i : Int)), x4] [] (SHL, g) (HM h f u (mtC u i)) := by
  obtain ⟨ts0, ts1, ts2, ts3, ts4, ts5, ts6, ts7, ts8, ts9, tg4, tg5, tg6, tg7, tg8, tg9, tg10, tg11, tg12⟩ := houseF hg ht
  obtain ⟨⟨⟨m0, m1, m2, m3⟩, mp, md, mn⟩, ⟨nd, nc, nl⟩, ck, cs, cpp, cl, ct⟩ := id hc
  intro n
  induction n with
  | zero =>
    intro i hi x4
    have e9 : i = (h t 0).toNat := by omega
    subst e9
    refine z_iload_n dX8_findMeeting_127 rfl ?_
    refine z_aload_n dX8_findMeeting_128 rfl (by omega) ?_
    refine y_geti (k' := 0) fl_X8_19 rfl dX8_findMeeting_129 ts0 (by decide) ((HM_ne (by omega)).trans (HW_ne (by omega) (by omega))) ?_
    refine z_icmp_ge (tgt := 169) dX8_findMeeting_132 (by decide) (fun _ => ?_) (fun q => False.elim (by omega))
    exact K _
  | succ n ih =>
    intro i hi x4
    refine z_iload_n dX8_findMeeting_127 rfl ?_
    refine z_aload_n dX8_findMeeting_128 rfl (by omega) ?_
    refine y_geti (k' := 0) fl_X8_19 rfl dX8_findMeeting_129 ts0 (by decide) ((HM_ne (by omega)).trans (HW_ne (by omega) (by omega))) ?_
    refine z_icmp_ge (tgt := 169) dX8_findMeeting_132 (by decide) (fun q => False.elim (by omega)) (fun _ => ?_)
    refine z_aload_n dX8_findMeeting_135 rfl (by omega) ?_
    refine y_geta (k' := 1) fl_X8_15 rfl dX8_findMeeting_136 sh_96 (by decide) (gf_96_1 hg) ?_
    refine z_iload_n dX8_findMeeting_139 rfl ?_
    refine z_iaload dX8_findMeeting_140 sh_98 (by omega) (by omega) ((HM_ne (by omega)).trans (HW_98 (by omega) (by omega))) ?_
    refine z_aload_n dX8_findMeeting_141 rfl (by omega) ?_
    refine y_geti (k' := 3) fl_X8_76 rfl dX8_findMeeting_142 sh_96 (by decide) (HM_3 _ _ _ _) ?_
    refine z_icmp_ge (tgt := 163) dX8_findMeeting_145 (by decide) (fun c145 => ?_) (fun c145 => ?_)
    ·
      refine y_iinc dX8_findMeeting_163 (by decide) rfl rfl (by omega) (by omega) lss_5_3 ?_
      refine z_goto (tgt := 127) dX8_findMeeting_166 (by decide) ?_
      have q := ih (i + 1) (by omega)
      first
        | (rw [mtC_f (by omega)] at q; exact q _)
        | (rw [mtC_t (by omega)] at q; rw [HM_up]; exact q _)
    ·
      refine z_aload_n dX8_findMeeting_148 rfl (by omega) ?_
      refine z_iload_n dX8_findMeeting_149 rfl ?_
      refine y_puti (k' := 2) fl_X8_73 rfl dX8_findMeeting_150 sh_96 (by decide)  ?_
      refine z_aload_n dX8_findMeeting_153 rfl (by omega) ?_
      refine z_aload_n dX8_findMeeting_154 rfl (by omega) ?_
      refine y_geta (k' := 1) fl_X8_15 rfl dX8_findMeeting_155 sh_96 (by decide) (gf_96_1 hg) ?_
      refine z_iload_n dX8_findMeeting_158 rfl ?_
      refine z_iaload dX8_findMeeting_159 sh_98 (by omega) (by omega) ((zup_ne (by omega)).trans ((HM_ne (by omega)).trans (HW_98 (by omega) (by omega)))) ?_
      refine y_puti (k' := 3) fl_X8_76 rfl dX8_findMeeting_160 sh_96 (by decide)  ?_
      refine y_iinc dX8_findMeeting_163 (by decide) rfl rfl (by omega) (by omega) lss_5_3 ?_
      refine z_goto (tgt := 127) dX8_findMeeting_166 (by decide) ?_
      have q := ih (i + 1) (by omega)
      first
        | (rw [mtC_f (by omega)] at q; exact q _)
        | (rw [mtC_t (by omega)] at q; rw [HM_up]; exact q _)
theorem qX8_findMeeting {l : Launch} {g h : zH} {Q : zQt} {t : Int} (hg : zGd g) (ht : t = 4 ∨ t = 14) (hc : CB h t) (h1 : ∀ h', (SC h h' ∧ h' 96 2 = (meetC h t).1 ∧ h' 96 3 = (meetC h t).2 ∧ 0 < h t 2 ∧ ¬ (meetC h t).1 = -9) → Q (some (zi 1)) (SHL, g) h') (h0 : ∀ h', (SC h h' ∧ ¬ (0 < h t 2 ∧ ¬ (meetC h t).1 = -9)) → Q (some (zi 0)) (SHL, g) h') : zC l mX8_findMeeting [zr 96, zr t, zr 24] (SHL, g) h Q := by
  obtain ⟨ts0, ts1, ts2, ts3, ts4, ts5, ts6, ts7, ts8, ts9, tg4, tg5, tg6, tg7, tg8, tg9, tg10, tg11, tg12⟩ := houseF hg ht
  obtain ⟨⟨⟨m0, m1, m2, m3⟩, mp, md, mn⟩, ⟨nd, nc, nl⟩, ck, cs, cpp, cl, ct⟩ := id hc
  refine z_method kX8_findMeeting.1 rfl (Nat.le_of_ble_eq_true rfl) (fun hok hh => ?_)
  refine z_iconst dX8_findMeeting_0 ⟨by decide, by decide⟩ ?_
  refine z_istore_n dX8_findMeeting_1 (by decide) rfl lss_5_3 ?_
  have K1 := lpX8_fm1 (l := l) (g := g) (h := h) (t := t) (Q := Q) hg ht (fun x4 => by
    refine z_iconst dX8_findMeeting_21 ⟨by decide, by decide⟩ ?_
    refine z_istore_n dX8_findMeeting_22 (by decide) rfl lss_5_3 ?_
    rw [show har h 98 8 (fun _ => 0) = HW h ((har h 98 8 (fun _ => 0)) 97) (togC h t 0) from (har_self (har h 98 8 (fun _ => 0)) 97 8).symm]
    refine lpX8_fm3 hg ht hc (fun f x4 => ?_) _ 0 (Nat.zero_add _) _ _
    refine z_aload_n dX8_findMeeting_113 rfl (by omega) ?_
    refine z_bipush dX8_findMeeting_114 ⟨by decide, by decide⟩ ?_
    refine y_puti (k' := 2) fl_X8_73 rfl dX8_findMeeting_116 sh_96 (by decide)  ?_
    refine z_aload_n dX8_findMeeting_119 rfl (by omega) ?_
    refine z_ldc dX8_findMeeting_120 kc_X8_18 ⟨by decide, by decide⟩ ?_
    refine y_puti (k' := 3) fl_X8_76 rfl dX8_findMeeting_122 sh_96 (by decide)  ?_
    refine z_iconst dX8_findMeeting_125 ⟨by decide, by decide⟩ ?_
    refine z_istore_n dX8_findMeeting_126 (by decide) rfl lss_5_3 ?_
    have K4 := lpX8_fm4 (l := l) (Q := Q) (f := f) (u := togC h t (h t 2).toNat) hg ht hc (fun x4 => by
      refine z_aload_n dX8_findMeeting_169 rfl (by omega) ?_
      refine y_geti (k' := 2) fl_X8_47 rfl dX8_findMeeting_170 ts0 (by decide) ((HM_ne (by omega)).trans (HW_ne (by omega) (by omega))) ?_
      refine z_if_le (tgt := 189) dX8_findMeeting_173 (by decide) (fun c173 => ?_) (fun c173 => ?_)
      ·
        refine z_iconst dX8_findMeeting_189 ⟨by decide, by decide⟩ ?_
        refine z_ret (v := some (zi _)) dX8_findMeeting_190 (Or.inl rfl) (Nat.add_zero _).symm (Nat.add_zero _).symm rfl ?_
        first
          | exact h1 _ ⟨HM_SC _ _ _ _, HM_2 _ _ _ _, HM_3 _ _ _ _, by omega, by assumption⟩
          | exact h0 _ ⟨HM_SC _ _ _ _, fun z => by omega⟩
          | exact h0 _ ⟨HM_SC _ _ _ _, fun z => z.2 (by assumption)⟩
      ·
        refine z_aload_n dX8_findMeeting_176 rfl (by omega) ?_
        refine y_geti (k' := 2) fl_X8_73 rfl dX8_findMeeting_177 sh_96 (by decide) (HM_2 _ _ _ _) ?_
        refine z_bipush dX8_findMeeting_180 ⟨by decide, by decide⟩ ?_
        refine z_icmp_eq (tgt := 189) dX8_findMeeting_182 (by decide) (fun c182 => ?_) (fun c182 => ?_)
        ·
          refine z_iconst dX8_findMeeting_189 ⟨by decide, by decide⟩ ?_
          refine z_ret (v := some (zi _)) dX8_findMeeting_190 (Or.inl rfl) (Nat.add_zero _).symm (Nat.add_zero _).symm rfl ?_
          first
            | exact h1 _ ⟨HM_SC _ _ _ _, HM_2 _ _ _ _, HM_3 _ _ _ _, by omega, by assumption⟩
            | exact h0 _ ⟨HM_SC _ _ _ _, fun z => by omega⟩
            | exact h0 _ ⟨HM_SC _ _ _ _, fun z => z.2 (by assumption)⟩
        ·
          refine z_iconst dX8_findMeeting_185 ⟨by decide, by decide⟩ ?_
          refine z_goto (tgt := 190) dX8_findMeeting_186 (by decide) ?_
          refine z_ret (v := some (zi _)) dX8_findMeeting_190 (Or.inr rfl) (Nat.add_zero _).symm (Nat.add_zero _).symm rfl ?_
          first
            | exact h1 _ ⟨HM_SC _ _ _ _, HM_2 _ _ _ _, HM_3 _ _ _ _, by omega, by assumption⟩
            | exact h0 _ ⟨HM_SC _ _ _ _, fun z => by omega⟩
            | exact h0 _ ⟨HM_SC _ _ _ _, fun z => z.2 (by assumption)⟩) _ 0 (Nat.zero_add _)
    exact K4 _) _ 0 (Nat.zero_add _)
  rw [har_0] at K1
  exact K1 _
def nowC (h : zH) (t w : Int) : Int := if w = 0 then h 24 5 else if w = 1 then (if 0 < h t 2 ∧ ¬ (meetC h t).1 = -9 then (meetC h t).1 else -9) else if w = 2 then (if 0 < h t 2 ∧ ¬ (meetC h t).1 = -9 then (meetC h t).2 else -9) else if w = 3 then fewC h t (pw (h t 2) - 1).toNat else if w = 4 then stC h t else -1
theorem qX9_now {l : Launch} {g h : zH} {Q : zQt} {t : Int} (hg : zGd g) (ht : t = 4 ∨ t = 14) (ht1 : g 1 1 = t) (hc : CB h t) {x : Int} (hQ : ∀ h', SC h h' → Q (some (zi (nowC h t x))) (SHL, g) h') : zC l mX9_now [zr 1, zi x] (SHL, g) h Q := by
  obtain ⟨ts0, ts1, ts2, ts3, ts4, ts5, ts6, ts7, ts8, ts9, tg4, tg5, tg6, tg7, tg8, tg9, tg10, tg11, tg12⟩ := houseF hg ht
  obtain ⟨⟨⟨m0, m1, m2, m3⟩, mp, md, mn⟩, ⟨nd, nc, nl⟩, ck, cs, cpp, cl, ct⟩ := id hc
  refine z_method kX9_now.1 rfl (Nat.le_of_ble_eq_true rfl) (fun hok hh => ?_)
  refine z_iload_n dX9_now_0 rfl ?_
  refine y_ts (td := 119) [36, 44, 75, 106, 114] dX9_now_1 (by decide) (by decide) (by decide) (fun c1 => ?_) (fun j1 hj1 c1 => ?_)
  ·
    refine z_iconst dX9_now_119 ⟨by decide, by decide⟩ ?_
    refine z_ret (v := some (zi _)) dX9_now_120 trivial (Nat.add_zero _).symm (Nat.add_zero _).symm rfl ?_
    replace hQ := hQ h (SC_refl h)
    rw [nowC, if_neg (by omega), if_neg (by omega), if_neg (by omega), if_neg (by omega), if_neg (by omega)] at hQ
    exact hQ
  ·
    rcases (show j1 = 0 ∨ j1 = 1 ∨ j1 = 2 ∨ j1 = 3 ∨ j1 = 4 by have h9 : j1 < 5 := hj1; omega) with rfl | rfl | rfl | rfl | rfl
    ·
      refine z_aload_n dX9_now_36 rfl (by omega) ?_
      refine y_geto (k' := 3) fl_X9_29 rfl dX9_now_37 sh_1 (by decide) (gf_1_3 hg) ?_
      refine y_geti (k' := 5) fl_X9_181 rfl dX9_now_40 sh_24 (by decide) rfl ?_
      refine z_ret (v := some (zi _)) dX9_now_43 trivial (Nat.add_zero _).symm (Nat.add_zero _).symm rfl ?_
      replace hQ := hQ h (SC_refl h)
      rw [nowC, if_pos (by omega)] at hQ
      exact hQ
    ·
      refine z_aload_n dX9_now_44 rfl (by omega) ?_
      refine y_geto (k' := 7) fl_X9_56 rfl dX9_now_45 sh_1 (by decide) (gf_1_7 hg) ?_
      refine z_aload_n dX9_now_48 rfl (by omega) ?_
      refine y_geto (k' := 1) fl_X9_19 rfl dX9_now_49 sh_1 (by decide) ht1 ?_
      refine z_aload_n dX9_now_52 rfl (by omega) ?_
      refine y_geto (k' := 3) fl_X9_29 rfl dX9_now_53 sh_1 (by decide) (gf_1_3 hg) ?_
      refine z_callV (T := mX8_findMeeting) (As := [_, _]) kX8_findMeeting ml_X9_196 ⟨by decide, by decide⟩ dX9_now_56 rfl rfl (Nat.le_of_ble_eq_true rfl) sh_96 ⟨by decide, rfl⟩ (Nat.le_refl _) (Nat.le_refl _) (qX8_findMeeting hg ht hc (fun b56 => ?_) (fun b56 => ?_))
      ·
        intro q56
        refine z_if_eq (tgt := 72) dX9_now_59 (by decide) (fun q => False.elim (by omega)) (fun _ => ?_)
        refine z_aload_n dX9_now_62 rfl (by omega) ?_
        refine y_geto (k' := 7) fl_X9_56 rfl dX9_now_63 sh_1 (by decide) (gf_1_7 hg) ?_
        refine y_geti (k' := 2) fl_X9_200 rfl dX9_now_66 sh_96 (by decide) q56.2.1 ?_
        refine z_goto (tgt := 74) dX9_now_69 (by decide) ?_
        refine z_ret (v := some (zi _)) dX9_now_74 trivial (Nat.add_zero _).symm (Nat.add_zero _).symm rfl ?_
        first
          | (replace hQ := hQ b56 q56.1; rw [nowC, if_neg (by omega), if_pos (by omega), if_pos ⟨q56.2.2.2.1, q56.2.2.2.2⟩] at hQ; exact hQ)
          | (replace hQ := hQ b56 q56.1; rw [nowC, if_neg (by omega), if_pos (by omega), if_neg q56.2] at hQ; exact hQ)
      ·
        intro q56
        refine z_if_eq (tgt := 72) dX9_now_59 (by decide) (fun _ => ?_) (fun q => False.elim (by omega))
        refine z_bipush dX9_now_72 ⟨by decide, by decide⟩ ?_
        refine z_ret (v := some (zi _)) dX9_now_74 trivial (Nat.add_zero _).symm (Nat.add_zero _).symm rfl ?_
        first
          | (replace hQ := hQ b56 q56.1; rw [nowC, if_neg (by omega), if_pos (by omega), if_pos ⟨q56.2.2.2.1, q56.2.2.2.2⟩] at hQ; exact hQ)
          | (replace hQ := hQ b56 q56.1; rw [nowC, if_neg (by omega), if_pos (by omega), if_neg q56.2] at hQ; exact hQ)
    ·
      refine z_aload_n dX9_now_75 rfl (by omega) ?_
      refine y_geto (k' := 7) fl_X9_56 rfl dX9_now_76 sh_1 (by decide) (gf_1_7 hg) ?_
      refine z_aload_n dX9_now_79 rfl (by omega) ?_
      refine y_geto (k' := 1) fl_X9_19 rfl dX9_now_80 sh_1 (by decide) ht1 ?_
      refine z_aload_n dX9_now_83 rfl (by omega) ?_
      refine y_geto (k' := 3) fl_X9_29 rfl dX9_now_84 sh_1 (by decide) (gf_1_3 hg) ?_
      refine z_callV (T := mX8_findMeeting) (As := [_, _]) kX8_findMeeting ml_X9_196 ⟨by decide, by decide⟩ dX9_now_87 rfl rfl (Nat.le_of_ble_eq_true rfl) sh_96 ⟨by decide, rfl⟩ (Nat.le_refl _) (Nat.le_refl _) (qX8_findMeeting hg ht hc (fun b87 => ?_) (fun b87 => ?_))
      ·
        intro q87
        refine z_if_eq (tgt := 103) dX9_now_90 (by decide) (fun q => False.elim (by omega)) (fun _ => ?_)
        refine z_aload_n dX9_now_93 rfl (by omega) ?_
        refine y_geto (k' := 7) fl_X9_56 rfl dX9_now_94 sh_1 (by decide) (gf_1_7 hg) ?_
        refine y_geti (k' := 3) fl_X9_203 rfl dX9_now_97 sh_96 (by decide) q87.2.2.1 ?_
        refine z_goto (tgt := 105) dX9_now_100 (by decide) ?_
        refine z_ret (v := some (zi _)) dX9_now_105 trivial (Nat.add_zero _).symm (Nat.add_zero _).symm rfl ?_
        first
          | (replace hQ := hQ b87 q87.1; rw [nowC, if_neg (by omega), if_neg (by omega), if_pos (by omega), if_pos ⟨q87.2.2.2.1, q87.2.2.2.2⟩] at hQ; exact hQ)
          | (replace hQ := hQ b87 q87.1; rw [nowC, if_neg (by omega), if_neg (by omega), if_pos (by omega), if_neg q87.2] at hQ; exact hQ)
      ·
        intro q87
        refine z_if_eq (tgt := 103) dX9_now_90 (by decide) (fun _ => ?_) (fun q => False.elim (by omega))
        refine z_bipush dX9_now_103 ⟨by decide, by decide⟩ ?_
        refine z_ret (v := some (zi _)) dX9_now_105 trivial (Nat.add_zero _).symm (Nat.add_zero _).symm rfl ?_
        first
          | (replace hQ := hQ b87 q87.1; rw [nowC, if_neg (by omega), if_neg (by omega), if_pos (by omega), if_pos ⟨q87.2.2.2.1, q87.2.2.2.2⟩] at hQ; exact hQ)
          | (replace hQ := hQ b87 q87.1; rw [nowC, if_neg (by omega), if_neg (by omega), if_pos (by omega), if_neg q87.2] at hQ; exact hQ)
    ·
      refine z_aload_n dX9_now_106 rfl (by omega) ?_
      refine y_geto (k' := 1) fl_X9_19 rfl dX9_now_107 sh_1 (by decide) ht1 ?_
      refine z_callV (T := mX4_fewestToLaugh) (As := []) kX4_fewestToLaugh ml_X9_206 ⟨by decide, by decide⟩ dX9_now_110 rfl rfl (Nat.le_of_ble_eq_true rfl) ts0 ⟨by decide, rfl⟩ (Nat.le_refl _) (Nat.le_refl _) (qX4_fewestToLaugh hg ht hc.1 ?_)
      refine z_ret (v := some (zi _)) dX9_now_113 trivial (Nat.add_zero _).symm (Nat.add_zero _).symm rfl ?_
      replace hQ := hQ h (SC_refl h)
      rw [nowC, if_neg (by omega), if_neg (by omega), if_neg (by omega), if_pos (by omega)] at hQ
      exact hQ
    ·
      refine z_aload_n dX9_now_114 rfl (by omega) ?_
      refine z_callV (T := mX9_stonesTogether) (As := []) kX9_stonesTogether ml_X9_209 ⟨by decide, by decide⟩ dX9_now_115 rfl rfl (Nat.le_of_ble_eq_true rfl) sh_1 ⟨by decide, rfl⟩ (Nat.le_refl _) (Nat.le_refl _) (qX9_stonesTogether hg ht ht1 m2 (fun d d0 d1 => (nd d d0 d1).2.1) ?_)
      refine z_ret (v := some (zi _)) dX9_now_118 trivial (Nat.add_zero _).symm (Nat.add_zero _).symm rfl ?_
      replace hQ := hQ h (SC_refl h)
      rw [nowC, if_neg (by omega), if_neg (by omega), if_neg (by omega), if_neg (by omega), if_pos (by omega)] at hQ
      exact hQ
