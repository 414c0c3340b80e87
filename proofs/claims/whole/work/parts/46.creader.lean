/-! The class: its text is read. -/
/-- the heap while a text is read: the reader's cells, the house that is told -/
def PH (h : zH) (s : Int) (F : zH) (a p k v f : Int) : zH := fun x y => if x = 2 ∧ 2 ≤ y ∧ y ≤ 6 then (if y = 2 then a else if y = 3 then p else if y = 4 then k else if y = 5 then v else f) else if s ≤ x ∧ x ≤ s + 9 then F (x - s) y else h x y
theorem PH_r2 {h F : zH} {s a p k v f : Int} : PH h s F a p k v f 2 2 = a := by
  unfold PH
  rw [if_pos (by omega), if_pos rfl]
theorem PH_r3 {h F : zH} {s a p k v f : Int} : PH h s F a p k v f 2 3 = p := by
  unfold PH
  rw [if_pos (by omega), if_neg (by omega), if_pos rfl]
theorem PH_r4 {h F : zH} {s a p k v f : Int} : PH h s F a p k v f 2 4 = k := by
  unfold PH
  rw [if_pos (by omega), if_neg (by omega), if_neg (by omega), if_pos rfl]
theorem PH_r5 {h F : zH} {s a p k v f : Int} : PH h s F a p k v f 2 5 = v := by
  unfold PH
  rw [if_pos (by omega), if_neg (by omega), if_neg (by omega), if_neg (by omega), if_pos rfl]
theorem PH_r6 {h F : zH} {s a p k v f : Int} : PH h s F a p k v f 2 6 = f := by
  unfold PH
  rw [if_pos (by omega), if_neg (by omega), if_neg (by omega), if_neg (by omega), if_neg (by omega)]
theorem PH_ne {h F : zH} {s a p k v f : Int} {x y : Int} (h1 : ¬ (x = 2 ∧ 2 ≤ y ∧ y ≤ 6)) (h2 : x < s ∨ s + 9 < x) : PH h s F a p k v f x y = h x y := by
  unfold PH
  rw [if_neg h1, if_neg (by omega)]
theorem PH_l {h F : zH} {s a p k v f : Int} (hs : s = 4 ∨ s = 14) : PH h s F a p k v f 2 1 = h 2 1 := PH_ne (by omega) (by omega)
theorem PH_x {h F : zH} {s a p k v f : Int} (hs : s = 4 ∨ s = 14) {i : Int} : PH h s F a p k v f 3 i = h 3 i := PH_ne (by omega) (by omega)
theorem PH_F {h F : zH} {s a p k v f : Int} (hs : s = 4 ∨ s = 14) {i b : Int} (i0 : 0 ≤ i) (i1 : i ≤ 9) : PH h s F a p k v f (s + i) b = F i b := by
  unfold PH
  rw [if_neg (by omega), if_pos (by omega), show s + i - s = i by omega]
theorem PH_s {h F : zH} {s a p k v f : Int} (hs : s = 4 ∨ s = 14) {b : Int} : PH h s F a p k v f s b = F 0 b := by
  have q := PH_F (h := h) (F := F) (a := a) (p := p) (k := k) (v := v) (f := f) hs (i := 0) (b := b) (by omega) (by omega)
  rw [Int.add_zero] at q
  exact q
theorem PH_wF {h F : zH} {s a p k v f : Int} (hs : s = 4 ∨ s = 14) {i b x : Int} (i0 : 0 ≤ i) (i1 : i ≤ 9) : zup (PH h s F a p k v f) (s + i) b x = PH h s (zup F i b x) a p k v f := by
  funext X Y
  by_cases z : X = s + i ∧ Y = b
  · rw [z.1, z.2, zup_same, PH_F hs i0 i1, zup_same]
  · rw [zup_ne z]
    unfold PH
    by_cases y : X = 2 ∧ 2 ≤ Y ∧ Y ≤ 6
    · rw [if_pos y, if_pos y]
    · rw [if_neg y, if_neg y]
      by_cases w : s ≤ X ∧ X ≤ s + 9
      · rw [if_pos w, if_pos w, zup_ne (by omega)]
      · rw [if_neg w, if_neg w]
theorem PH_ws {h F : zH} {s a p k v f : Int} (hs : s = 4 ∨ s = 14) {b x : Int} : zup (PH h s F a p k v f) s b x = PH h s (zup F 0 b x) a p k v f := by
  have q := PH_wF (h := h) (F := F) (a := a) (p := p) (k := k) (v := v) (f := f) hs (i := 0) (b := b) (x := x) (by omega) (by omega)
  rw [Int.add_zero] at q
  exact q
theorem PH_w2 {h F : zH} {s a p k v f : Int} {x : Int} : zup (PH h s F a p k v f) 2 2 x = PH h s F x p k v f := by
  funext X Y
  by_cases z : X = 2 ∧ Y = 2
  · rw [z.1, z.2, zup_same, PH_r2]
  · rw [zup_ne z]
    unfold PH
    by_cases y : X = 2 ∧ 2 ≤ Y ∧ Y ≤ 6
    · rw [if_pos y, if_pos y]
      simp only [if_neg (show ¬ Y = 2 by omega)]
    · rw [if_neg y, if_neg y]
theorem PH_w3 {h F : zH} {s a p k v f : Int} {x : Int} : zup (PH h s F a p k v f) 2 3 x = PH h s F a x k v f := by
  funext X Y
  by_cases z : X = 2 ∧ Y = 3
  · rw [z.1, z.2, zup_same, PH_r3]
  · rw [zup_ne z]
    unfold PH
    by_cases y : X = 2 ∧ 2 ≤ Y ∧ Y ≤ 6
    · rw [if_pos y, if_pos y]
      simp only [if_neg (show ¬ Y = 3 by omega)]
    · rw [if_neg y, if_neg y]
theorem PH_w4 {h F : zH} {s a p k v f : Int} {x : Int} : zup (PH h s F a p k v f) 2 4 x = PH h s F a p x v f := by
  funext X Y
  by_cases z : X = 2 ∧ Y = 4
  · rw [z.1, z.2, zup_same, PH_r4]
  · rw [zup_ne z]
    unfold PH
    by_cases y : X = 2 ∧ 2 ≤ Y ∧ Y ≤ 6
    · rw [if_pos y, if_pos y]
      simp only [if_neg (show ¬ Y = 4 by omega)]
    · rw [if_neg y, if_neg y]
theorem PH_w5 {h F : zH} {s a p k v f : Int} {x : Int} : zup (PH h s F a p k v f) 2 5 x = PH h s F a p k x f := by
  funext X Y
  by_cases z : X = 2 ∧ Y = 5
  · rw [z.1, z.2, zup_same, PH_r5]
  · rw [zup_ne z]
    unfold PH
    by_cases y : X = 2 ∧ 2 ≤ Y ∧ Y ≤ 6
    · rw [if_pos y, if_pos y]
      simp only [if_neg (show ¬ Y = 5 by omega)]
    · rw [if_neg y, if_neg y]
theorem PH_w6 {h F : zH} {s a p k v f : Int} {x : Int} : zup (PH h s F a p k v f) 2 6 x = PH h s F a p k v x := by
  funext X Y
  by_cases z : X = 2 ∧ Y = 6
  · rw [z.1, z.2, zup_same, PH_r6]
  · rw [zup_ne z]
    unfold PH
    by_cases y : X = 2 ∧ 2 ≤ Y ∧ Y ≤ 6
    · rw [if_pos y, if_pos y]
      rcases (show Y = 2 ∨ Y = 3 ∨ Y = 4 ∨ Y = 5 by omega) with rfl | rfl | rfl | rfl <;> rfl
    · rw [if_neg y, if_neg y]
theorem lwX7_skip {l : Launch} {g h F : zH} {Q : zQt} {s p k v f : Int} (hg : zGd g) (hs : s = 4 ∨ s = 14) (hL : 0 ≤ h 2 1 ∧ h 2 1 ≤ 150) (hT : ∀ i, 0 ≤ i → i < h 2 1 → 0 ≤ h 3 i ∧ h 3 i ≤ 255) {A : Int} (K : zW zX0 l mX7_nextToken ((SHL, g).1.length + zmc mX7_nextToken) (ztot (SHL, g) + zms mX7_nextToken) Q 38 [some (zr 2)] [] (SHL, g) (PH h s F (sc isB (h 3) (h 2 1) A) p k v f)) : ∀ (n : Nat) (a : Int), n = (h 2 1 - a).toNat → 0 ≤ a → a ≤ h 2 1 → sc isB (h 3) (h 2 1) a = sc isB (h 3) (h 2 1) A → zW zX0 l mX7_nextToken ((SHL, g).1.length + zmc mX7_nextToken) (ztot (SHL, g) + zms mX7_nextToken) Q 0 [some (zr 2)] [] (SHL, g) (PH h s F a p k v f) := by
  intro n
  induction n with
  | zero =>
    intro a hn a0 a1 he
    rw [← he, sc_L (by omega)] at K
    refine z_aload_n dX7_nextToken_0 rfl (by omega) ?_
    refine y_geti (k' := 2) fl_X7_24 rfl dX7_nextToken_1 sh_2 (by decide) PH_r2 ?_
    refine z_aload_n dX7_nextToken_4 rfl (by omega) ?_
    refine y_geti (k' := 1) fl_X7_15 rfl dX7_nextToken_5 sh_2 (by decide) (PH_l hs) ?_
    refine z_icmp_ge (tgt := 38) dX7_nextToken_8 (by decide) (fun _ => ?_) (fun q => False.elim (by omega))
    exact K
  | succ n ih =>
    intro a hn a0 a1 he
    refine z_aload_n dX7_nextToken_0 rfl (by omega) ?_
    refine y_geti (k' := 2) fl_X7_24 rfl dX7_nextToken_1 sh_2 (by decide) PH_r2 ?_
    refine z_aload_n dX7_nextToken_4 rfl (by omega) ?_
    refine y_geti (k' := 1) fl_X7_15 rfl dX7_nextToken_5 sh_2 (by decide) (PH_l hs) ?_
    refine z_icmp_ge (tgt := 38) dX7_nextToken_8 (by decide) (fun q => False.elim (by omega)) (fun _ => ?_)
    refine z_aload_n dX7_nextToken_11 rfl (by omega) ?_
    refine y_geta (k' := 0) fl_X7_9 rfl dX7_nextToken_12 sh_2 (by decide) (gf_2_0 hg) ?_
    refine z_aload_n dX7_nextToken_15 rfl (by omega) ?_
    refine y_geti (k' := 2) fl_X7_24 rfl dX7_nextToken_16 sh_2 (by decide) PH_r2 ?_
    refine z_iaload dX7_nextToken_19 sh_3 (by omega) (by omega) (PH_x hs) ?_
    refine z_bipush dX7_nextToken_20 ⟨by decide, by decide⟩ ?_
    refine z_icmp_ne (tgt := 38) dX7_nextToken_22 (by decide) (fun c22 => ?_) (fun c22 => ?_)
    ·
      rw [← he, sc_n (by omega) (fun z => absurd (of_decide_eq_true z) c22)] at K
      exact K
    ·
      refine z_aload_n dX7_nextToken_25 rfl (by omega) ?_
      refine z_dup dX7_nextToken_26 rfl ?_
      refine y_geti (k' := 2) fl_X7_24 rfl dX7_nextToken_27 sh_2 (by decide) PH_r2 ?_
      refine z_iconst dX7_nextToken_30 ⟨by decide, by decide⟩ ?_
      refine y_iadd dX7_nextToken_31 (by omega) (by omega) ?_
      refine y_puti (k' := 2) fl_X7_24 rfl dX7_nextToken_32 sh_2 (by decide)  ?_
      rw [PH_w2]
      refine z_goto (tgt := 0) dX7_nextToken_35 (by decide) ?_
      exact ih (a + 1) (by omega) (by omega) (by omega) ((sc_t (by omega) (show isB (h 3 a) = true from decide_eq_true (by omega))).symm.trans he)
theorem lwX7_let {l : Launch} {g h F : zH} {Q : zQt} {s p k f : Int} (hg : zGd g) (hs : s = 4 ∨ s = 14) (hL : 0 ≤ h 2 1 ∧ h 2 1 ≤ 150) (hT : ∀ i, 0 ≤ i → i < h 2 1 → 0 ≤ h 3 i ∧ h 3 i ≤ 255) {A x : Int} (K : zW zX0 l mX7_takeLetters ((SHL, g).1.length + zmc mX7_takeLetters) (ztot (SHL, g) + zms mX7_takeLetters) Q 72 [some (zr 2)] [] (SHL, g) (PH h s F (sc isL (h 3) (h 2 1) A) p k (if sc isL (h 3) (h 2 1) A = A then x else 0) f)) : ∀ (n : Nat) (a v : Int), n = (h 2 1 - a).toNat → 0 ≤ a → a ≤ h 2 1 → sc isL (h 3) (h 2 1) a = sc isL (h 3) (h 2 1) A → (a = A ∧ v = x) ∨ (A < a ∧ v = 0) → zW zX0 l mX7_takeLetters ((SHL, g).1.length + zmc mX7_takeLetters) (ztot (SHL, g) + zms mX7_takeLetters) Q 28 [some (zr 2)] [] (SHL, g) (PH h s F a p k v f) := by
  intro n
  induction n with
  | zero =>
    intro a v hn a0 a1 he hv
    have e2 : sc isL (h 3) (h 2 1) a = a := sc_L (by omega)
    have e3 : (if sc isL (h 3) (h 2 1) A = A then x else 0) = v := by split <;> omega
    rw [e3, ← he, e2] at K
    refine z_aload_n dX7_takeLetters_28 rfl (by omega) ?_
    refine y_geti (k' := 2) fl_X7_24 rfl dX7_takeLetters_29 sh_2 (by decide) PH_r2 ?_
    refine z_aload_n dX7_takeLetters_32 rfl (by omega) ?_
    refine y_geti (k' := 1) fl_X7_15 rfl dX7_takeLetters_33 sh_2 (by decide) (PH_l hs) ?_
    refine z_icmp_ge (tgt := 72) dX7_takeLetters_36 (by decide) (fun _ => ?_) (fun q => False.elim (by omega))
    exact K
  | succ n ih =>
    intro a v hn a0 a1 he hv
    refine z_aload_n dX7_takeLetters_28 rfl (by omega) ?_
    refine y_geti (k' := 2) fl_X7_24 rfl dX7_takeLetters_29 sh_2 (by decide) PH_r2 ?_
    refine z_aload_n dX7_takeLetters_32 rfl (by omega) ?_
    refine y_geti (k' := 1) fl_X7_15 rfl dX7_takeLetters_33 sh_2 (by decide) (PH_l hs) ?_
    refine z_icmp_ge (tgt := 72) dX7_takeLetters_36 (by decide) (fun q => False.elim (by omega)) (fun _ => ?_)
    refine z_aload_n dX7_takeLetters_39 rfl (by omega) ?_
    refine y_geta (k' := 0) fl_X7_9 rfl dX7_takeLetters_40 sh_2 (by decide) (gf_2_0 hg) ?_
    refine z_aload_n dX7_takeLetters_43 rfl (by omega) ?_
    refine y_geti (k' := 2) fl_X7_24 rfl dX7_takeLetters_44 sh_2 (by decide) PH_r2 ?_
    refine z_iaload dX7_takeLetters_47 sh_3 (by omega) (by omega) (PH_x hs) ?_
    refine z_callS (T := mX7_isLetter) (As := [_]) kX7_isLetter ml_X7_101 ⟨by decide, by decide⟩ dX7_takeLetters_48 rfl rfl (Nat.le_of_ble_eq_true rfl) (Nat.le_refl _) (Nat.le_refl _) (qX7_isLetter (fun b48 => ?_) (fun b48 => ?_))
    ·
      refine z_if_eq (tgt := 72) dX7_takeLetters_51 (by decide) (fun q => False.elim (by omega)) (fun _ => ?_)
      refine z_aload_n dX7_takeLetters_54 rfl (by omega) ?_
      refine z_iconst dX7_takeLetters_55 ⟨by decide, by decide⟩ ?_
      refine y_puti (k' := 5) fl_X7_44 rfl dX7_takeLetters_56 sh_2 (by decide)  ?_
      rw [PH_w5]
      refine z_aload_n dX7_takeLetters_59 rfl (by omega) ?_
      refine z_dup dX7_takeLetters_60 rfl ?_
      refine y_geti (k' := 2) fl_X7_24 rfl dX7_takeLetters_61 sh_2 (by decide) PH_r2 ?_
      refine z_iconst dX7_takeLetters_64 ⟨by decide, by decide⟩ ?_
      refine y_iadd dX7_takeLetters_65 (by omega) (by omega) ?_
      refine y_puti (k' := 2) fl_X7_24 rfl dX7_takeLetters_66 sh_2 (by decide)  ?_
      rw [PH_w2]
      refine z_goto (tgt := 28) dX7_takeLetters_69 (by decide) ?_
      exact ih (a + 1) 0 (by omega) (by omega) (by omega) ((sc_t (by omega) (show isL (h 3 a) = true from decide_eq_true b48)).symm.trans he) (Or.inr ⟨by omega, rfl⟩)
    ·
      refine z_if_eq (tgt := 72) dX7_takeLetters_51 (by decide) (fun _ => ?_) (fun q => False.elim (by omega))
      have e2 : sc isL (h 3) (h 2 1) a = a := sc_n (by omega) (fun z => absurd (of_decide_eq_true z) b48)
      have e3 : (if sc isL (h 3) (h 2 1) A = A then x else 0) = v := by split <;> omega
      rw [e3, ← he, e2] at K
      exact K
theorem qX7_takeLetters {l : Launch} {g h F : zH} {Q : zQt} {s a p k v f : Int} (hg : zGd g) (hs : s = 4 ∨ s = 14) (hL : 0 ≤ h 2 1 ∧ h 2 1 ≤ 150) (hT : ∀ i, 0 ≤ i → i < h 2 1 → 0 ≤ h 3 i ∧ h 3 i ≤ 255) (a0 : 0 ≤ a) (a1 : a < h 2 1) (hQ : Q none (SHL, g) (PH h s F (sc isL (h 3) (h 2 1) (a + 1)) p 1 (if sc isL (h 3) (h 2 1) (a + 1) = a + 1 then h 3 a else 0) f)) : zC l mX7_takeLetters [zr 2] (SHL, g) (PH h s F a p k v f) Q := by
  refine z_method kX7_takeLetters.1 rfl (Nat.le_of_ble_eq_true rfl) (fun hok hh => ?_)
  refine z_aload_n dX7_takeLetters_0 rfl (by omega) ?_
  refine z_iconst dX7_takeLetters_1 ⟨by decide, by decide⟩ ?_
  refine y_puti (k' := 4) fl_X7_34 rfl dX7_takeLetters_2 sh_2 (by decide)  ?_
  rw [PH_w4]
  refine z_aload_n dX7_takeLetters_5 rfl (by omega) ?_
  refine z_aload_n dX7_takeLetters_6 rfl (by omega) ?_
  refine y_geta (k' := 0) fl_X7_9 rfl dX7_takeLetters_7 sh_2 (by decide) (gf_2_0 hg) ?_
  refine z_aload_n dX7_takeLetters_10 rfl (by omega) ?_
  refine y_geti (k' := 2) fl_X7_24 rfl dX7_takeLetters_11 sh_2 (by decide) PH_r2 ?_
  refine z_iaload dX7_takeLetters_14 sh_3 (by omega) (by omega) (PH_x hs) ?_
  refine y_puti (k' := 5) fl_X7_44 rfl dX7_takeLetters_15 sh_2 (by decide)  ?_
  rw [PH_w5]
  refine z_aload_n dX7_takeLetters_18 rfl (by omega) ?_
  refine z_dup dX7_takeLetters_19 rfl ?_
  refine y_geti (k' := 2) fl_X7_24 rfl dX7_takeLetters_20 sh_2 (by decide) PH_r2 ?_
  refine z_iconst dX7_takeLetters_23 ⟨by decide, by decide⟩ ?_
  refine y_iadd dX7_takeLetters_24 (by omega) (by omega) ?_
  refine y_puti (k' := 2) fl_X7_24 rfl dX7_takeLetters_25 sh_2 (by decide)  ?_
  rw [PH_w2]
  refine lwX7_let hg hs hL hT (A := a + 1) (x := h 3 a) ?_ _ (a + 1) (h 3 a) rfl (by omega) (by omega) rfl (Or.inl ⟨rfl, rfl⟩)
  refine z_ret (v := none) dX7_takeLetters_72 trivial (Nat.add_zero _).symm (Nat.add_zero _).symm rfl ?_
  exact hQ
def IVn (h : zH) (A q v : Int) : Prop := (0 ≤ v ∧ v ≤ 100) ∧ (q = A → v = 0) ∧ (q = A + 1 → v = h 3 A - 48) ∧ (q = A + 2 → v = 10 * (h 3 A - 48) + h 3 (A + 1) - 48) ∧ (A + 3 ≤ q → ¬ h 3 A = 48 → v = 100) ∧ (A + 2 ≤ q → 48 ≤ h 3 (A + 1) ∧ h 3 (A + 1) ≤ 57)
theorem IVn_up {h : zH} {A q v : Int} (hA : 48 ≤ h 3 A ∧ h 3 A ≤ 57) (hq : 48 ≤ h 3 q ∧ h 3 q ≤ 57) (h0 : A ≤ q) (hi : IVn h A q v) : IVn h A (q + 1) (min 100 (v * 10 + h 3 q - 48)) := by
  obtain ⟨i0, i1, i2, i3, i4, i5⟩ := hi
  refine ⟨by omega, by omega, fun z => ?_, fun z => ?_, fun z y => ?_, fun z => ?_⟩
  · have e : q = A := by omega
    subst e
    have := i1 rfl
    omega
  · have e : q = A + 1 := by omega
    subst e
    have := i2 rfl
    omega
  · by_cases e : q = A + 2
    · have := i3 e
      have := i5 (by omega)
      subst e
      omega
    · have := i4 (by omega) y
      omega
  · by_cases e : q = A + 1
    · rw [← e]; exact hq
    · exact i5 (by omega)
theorem lwX7_num {l : Launch} {g h F : zH} {Q : zQt} {s p k f : Int} (hg : zGd g) (hs : s = 4 ∨ s = 14) (hL : 0 ≤ h 2 1 ∧ h 2 1 ≤ 150) (hT : ∀ i, 0 ≤ i → i < h 2 1 → 0 ≤ h 3 i ∧ h 3 i ≤ 255) {A z1 : Int} {x2 : Option zV} (A0 : 0 ≤ A) (hA : 48 ≤ h 3 A ∧ h 3 A ≤ 57) (K : ∀ v', IVn h A (sc isD (h 3) (h 2 1) A) v' → zW zX0 l mX7_takeNumber ((SHL, g).1.length + zmc mX7_takeNumber) (ztot (SHL, g) + zms mX7_takeNumber) Q 93 [some (zr 2), some (zi z1), x2] [] (SHL, g) (PH h s F (sc isD (h 3) (h 2 1) A) p k v' f)) : ∀ (n : Nat) (a v : Int), n = (h 2 1 - a).toNat → A ≤ a → a ≤ h 2 1 → sc isD (h 3) (h 2 1) a = sc isD (h 3) (h 2 1) A → IVn h A a v → zW zX0 l mX7_takeNumber ((SHL, g).1.length + zmc mX7_takeNumber) (ztot (SHL, g) + zms mX7_takeNumber) Q 25 [some (zr 2), some (zi z1), x2] [] (SHL, g) (PH h s F a p k v f) := by
  intro n
  induction n with
  | zero =>
    intro a v hn a0 a1 he hv
    have e2 : sc isD (h 3) (h 2 1) a = a := sc_L (by omega)
    rw [← he, e2] at K
    refine z_aload_n dX7_takeNumber_25 rfl (by omega) ?_
    refine y_geti (k' := 2) fl_X7_24 rfl dX7_takeNumber_26 sh_2 (by decide) PH_r2 ?_
    refine z_aload_n dX7_takeNumber_29 rfl (by omega) ?_
    refine y_geti (k' := 1) fl_X7_15 rfl dX7_takeNumber_30 sh_2 (by decide) (PH_l hs) ?_
    refine z_icmp_ge (tgt := 93) dX7_takeNumber_33 (by decide) (fun _ => ?_) (fun q => False.elim (by omega))
    exact K v hv
  | succ n ih =>
    intro a v hn a0 a1 he hv
    have h8 := hT a (by omega) (by omega)
    have v9 := hv.1
    refine z_aload_n dX7_takeNumber_25 rfl (by omega) ?_
    refine y_geti (k' := 2) fl_X7_24 rfl dX7_takeNumber_26 sh_2 (by decide) PH_r2 ?_
    refine z_aload_n dX7_takeNumber_29 rfl (by omega) ?_
    refine y_geti (k' := 1) fl_X7_15 rfl dX7_takeNumber_30 sh_2 (by decide) (PH_l hs) ?_
    refine z_icmp_ge (tgt := 93) dX7_takeNumber_33 (by decide) (fun q => False.elim (by omega)) (fun _ => ?_)
    refine z_aload_n dX7_takeNumber_36 rfl (by omega) ?_
    refine y_geta (k' := 0) fl_X7_9 rfl dX7_takeNumber_37 sh_2 (by decide) (gf_2_0 hg) ?_
    refine z_aload_n dX7_takeNumber_40 rfl (by omega) ?_
    refine y_geti (k' := 2) fl_X7_24 rfl dX7_takeNumber_41 sh_2 (by decide) PH_r2 ?_
    refine z_iaload dX7_takeNumber_44 sh_3 (by omega) (by omega) (PH_x hs) ?_
    refine z_callS (T := mX7_isDigit) (As := [_]) kX7_isDigit ml_X7_108 ⟨by decide, by decide⟩ dX7_takeNumber_45 rfl rfl (Nat.le_of_ble_eq_true rfl) (Nat.le_refl _) (Nat.le_refl _) (qX7_isDigit (fun b45 => ?_) (fun b45 => ?_))
    ·
      refine z_if_eq (tgt := 93) dX7_takeNumber_48 (by decide) (fun q => False.elim (by omega)) (fun _ => ?_)
      refine z_aload_n dX7_takeNumber_51 rfl (by omega) ?_
      refine z_bipush dX7_takeNumber_52 ⟨by decide, by decide⟩ ?_
      refine z_aload_n dX7_takeNumber_54 rfl (by omega) ?_
      refine y_geti (k' := 5) fl_X7_44 rfl dX7_takeNumber_55 sh_2 (by decide) PH_r5 ?_
      refine z_bipush dX7_takeNumber_58 ⟨by decide, by decide⟩ ?_
      refine y_imul dX7_takeNumber_60 (by omega) (by omega) ?_
      refine z_aload_n dX7_takeNumber_61 rfl (by omega) ?_
      refine y_geta (k' := 0) fl_X7_9 rfl dX7_takeNumber_62 sh_2 (by decide) (gf_2_0 hg) ?_
      refine z_aload_n dX7_takeNumber_65 rfl (by omega) ?_
      refine y_geti (k' := 2) fl_X7_24 rfl dX7_takeNumber_66 sh_2 (by decide) PH_r2 ?_
      refine z_iaload dX7_takeNumber_69 sh_3 (by omega) (by omega) (PH_x hs) ?_
      refine y_iadd dX7_takeNumber_70 (by omega) (by omega) ?_
      refine z_bipush dX7_takeNumber_71 ⟨by decide, by decide⟩ ?_
      refine y_isub dX7_takeNumber_73 (by omega) (by omega) ?_
      refine z_mmin kmin ml_X7_114 (by decide) (Nat.le_of_ble_eq_true rfl) (Nat.le_add_right _ _) (Nat.le_add_right _ _) dX7_takeNumber_74 ?_
      refine y_puti (k' := 5) fl_X7_44 rfl dX7_takeNumber_77 sh_2 (by decide)  ?_
      rw [PH_w5]
      refine z_aload_n dX7_takeNumber_80 rfl (by omega) ?_
      refine z_dup dX7_takeNumber_81 rfl ?_
      refine y_geti (k' := 2) fl_X7_24 rfl dX7_takeNumber_82 sh_2 (by decide) PH_r2 ?_
      refine z_iconst dX7_takeNumber_85 ⟨by decide, by decide⟩ ?_
      refine y_iadd dX7_takeNumber_86 (by omega) (by omega) ?_
      refine y_puti (k' := 2) fl_X7_24 rfl dX7_takeNumber_87 sh_2 (by decide)  ?_
      rw [PH_w2]
      refine z_goto (tgt := 25) dX7_takeNumber_90 (by decide) ?_
      exact ih (a + 1) _ (by omega) (by omega) (by omega) ((sc_t (by omega) (show isD (h 3 a) = true from decide_eq_true b45)).symm.trans he) (IVn_up hA b45 a0 hv)
    ·
      refine z_if_eq (tgt := 93) dX7_takeNumber_48 (by decide) (fun _ => ?_) (fun q => False.elim (by omega))
      have e2 : sc isD (h 3) (h 2 1) a = a := sc_n (by omega) (fun z => absurd (of_decide_eq_true z) b45)
      rw [← he, e2] at K
      exact K v hv
theorem qX7_takeNumber {l : Launch} {g h F : zH} {Q : zQt} {s a p k v f : Int} (hg : zGd g) (hs : s = 4 ∨ s = 14) (hL : 0 ≤ h 2 1 ∧ h 2 1 ≤ 150) (hT : ∀ i, 0 ≤ i → i < h 2 1 → 0 ≤ h 3 i ∧ h 3 i ≤ 255) (a0 : 0 ≤ a) (a1 : a < h 2 1) (hp : p = a) (hD : 48 ≤ h 3 a ∧ h 3 a ≤ 57) (hQ : ∀ k' v', KV (tkc (h 3) (h 2 1) a) k' v' → Q none (SHL, g) (PH h s F (sc isD (h 3) (h 2 1) (a + 1)) p k' v' f)) : zC l mX7_takeNumber [zr 2] (SHL, g) (PH h s F a p k v f) Q := by
  refine z_method kX7_takeNumber.1 rfl (Nat.le_of_ble_eq_true rfl) (fun hok hh => ?_)
  refine z_aload_n dX7_takeNumber_0 rfl (by omega) ?_
  refine y_geta (k' := 0) fl_X7_9 rfl dX7_takeNumber_1 sh_2 (by decide) (gf_2_0 hg) ?_
  refine z_aload_n dX7_takeNumber_4 rfl (by omega) ?_
  refine y_geti (k' := 2) fl_X7_24 rfl dX7_takeNumber_5 sh_2 (by decide) PH_r2 ?_
  refine z_iaload dX7_takeNumber_8 sh_3 (by omega) (by omega) (PH_x hs) ?_
  refine z_bipush dX7_takeNumber_9 ⟨by decide, by decide⟩ ?_
  refine z_icmp_ne (tgt := 18) dX7_takeNumber_11 (by decide) (fun c11 => ?_) (fun c11 => ?_)
  ·
    refine z_iconst dX7_takeNumber_18 ⟨by decide, by decide⟩ ?_
    refine z_istore_n dX7_takeNumber_19 (by decide) rfl lss_3_1 ?_
    refine z_aload_n dX7_takeNumber_20 rfl (by omega) ?_
    refine z_iconst dX7_takeNumber_21 ⟨by decide, by decide⟩ ?_
    refine y_puti (k' := 5) fl_X7_44 rfl dX7_takeNumber_22 sh_2 (by decide)  ?_
    rw [PH_w5]
    refine lwX7_num hg hs hL hT (A := a) (by omega) hD (fun v' hiv => ?_) _ a 0 rfl (by omega) (by omega) rfl ⟨by omega, by omega, by omega, by omega, by omega, by omega⟩
    have E1 : sc isD (h 3) (h 2 1) a = sc isD (h 3) (h 2 1) (a + 1) := sc_t (by omega) (decide_eq_true hD)
    have v9 := hiv.1
    rw [E1]
    refine z_iload_n dX7_takeNumber_93 rfl ?_
    refine z_if_eq (tgt := 114) dX7_takeNumber_94 (by decide) (fun c94 => ?_) (fun c94 => ?_)
    ·
      refine z_iconst dX7_takeNumber_114 ⟨by decide, by decide⟩ ?_
      refine z_istore_n dX7_takeNumber_115 (by decide) rfl lss_3_2 ?_
      refine z_aload_n dX7_takeNumber_116 rfl (by omega) ?_
      refine z_iload_n dX7_takeNumber_117 rfl ?_
      refine z_if_ne (tgt := 130) dX7_takeNumber_118 (by decide) (fun q => False.elim (by omega)) (fun _ => ?_)
      refine z_aload_n dX7_takeNumber_121 rfl (by omega) ?_
      refine y_geti (k' := 5) fl_X7_44 rfl dX7_takeNumber_122 sh_2 (by decide) PH_r5 ?_
      refine z_bipush dX7_takeNumber_125 ⟨by decide, by decide⟩ ?_
      refine z_icmp_le (tgt := 134) dX7_takeNumber_127 (by decide) (fun c127 => ?_) (fun c127 => ?_)
      ·
        refine z_iconst dX7_takeNumber_134 ⟨by decide, by decide⟩ ?_
        refine y_puti (k' := 4) fl_X7_34 rfl dX7_takeNumber_135 sh_2 (by decide)  ?_
        rw [PH_w4]
        refine z_ret (v := none) dX7_takeNumber_138 trivial (Nat.add_zero _).symm (Nat.add_zero _).symm rfl ?_
        refine hQ _ _ ?_
        obtain ⟨i0, i1, i2, i3, i4, i5⟩ := hiv
        have r1 := sc_rg (f := isD) (X := h 3) (show a + 1 ≤ h 2 1 by omega)
        have e1 : sc isD (h 3) (h 2 1) a = sc isD (h 3) (h 2 1) (a + 1) := sc_t (by omega) (decide_eq_true hD)
        rw [e1] at i1 i2 i3 i4 i5
        have yL : ¬ isL (h 3 a) = true := fun z => absurd (of_decide_eq_true z) (by omega)
        have yD : isD (h 3 a) = true := decide_eq_true hD
        have tC : tkc (h 3) (h 2 1) a = (if sc isD (h 3) (h 2 1) (a + 1) = a + 1 then h 3 a - 48 else if sc isD (h 3) (h 2 1) (a + 1) = a + 2 ∧ ¬ h 3 a = 48 then 10 * (h 3 a - 48) + h 3 (a + 1) - 48 else -3) := (if_neg (by omega)).trans ((if_neg yL).trans (if_pos yD))
        rw [tC]
        unfold KV
        generalize sc isD (h 3) (h 2 1) (a + 1) = E at *
        by_cases y1 : E = a + 1
        · rw [if_pos y1]
          have := i2 y1
          omega
        · rw [if_neg y1]
          by_cases y2 : E = a + 2
          · have := i3 y2
            by_cases y3 : h 3 a = 48
            · rw [if_neg (fun z => z.2 y3)]
              omega
            · rw [if_pos ⟨y2, y3⟩]
              have := i5 (by omega)
              omega
          · rw [if_neg (fun z => y2 z.1)]
            by_cases y3 : h 3 a = 48
            · omega
            · have := i4 (by omega) y3
              omega
      ·
        refine z_iconst dX7_takeNumber_130 ⟨by decide, by decide⟩ ?_
        refine z_goto (tgt := 135) dX7_takeNumber_131 (by decide) ?_
        refine y_puti (k' := 4) fl_X7_34 rfl dX7_takeNumber_135 sh_2 (by decide)  ?_
        rw [PH_w4]
        refine z_ret (v := none) dX7_takeNumber_138 trivial (Nat.add_zero _).symm (Nat.add_zero _).symm rfl ?_
        refine hQ _ _ ?_
        obtain ⟨i0, i1, i2, i3, i4, i5⟩ := hiv
        have r1 := sc_rg (f := isD) (X := h 3) (show a + 1 ≤ h 2 1 by omega)
        have e1 : sc isD (h 3) (h 2 1) a = sc isD (h 3) (h 2 1) (a + 1) := sc_t (by omega) (decide_eq_true hD)
        rw [e1] at i1 i2 i3 i4 i5
        have yL : ¬ isL (h 3 a) = true := fun z => absurd (of_decide_eq_true z) (by omega)
        have yD : isD (h 3 a) = true := decide_eq_true hD
        have tC : tkc (h 3) (h 2 1) a = (if sc isD (h 3) (h 2 1) (a + 1) = a + 1 then h 3 a - 48 else if sc isD (h 3) (h 2 1) (a + 1) = a + 2 ∧ ¬ h 3 a = 48 then 10 * (h 3 a - 48) + h 3 (a + 1) - 48 else -3) := (if_neg (by omega)).trans ((if_neg yL).trans (if_pos yD))
        rw [tC]
        unfold KV
        generalize sc isD (h 3) (h 2 1) (a + 1) = E at *
        by_cases y1 : E = a + 1
        · rw [if_pos y1]
          have := i2 y1
          omega
        · rw [if_neg y1]
          by_cases y2 : E = a + 2
          · have := i3 y2
            by_cases y3 : h 3 a = 48
            · rw [if_neg (fun z => z.2 y3)]
              omega
            · rw [if_pos ⟨y2, y3⟩]
              have := i5 (by omega)
              omega
          · rw [if_neg (fun z => y2 z.1)]
            by_cases y3 : h 3 a = 48
            · omega
            · have := i4 (by omega) y3
              omega
    ·
      refine z_aload_n dX7_takeNumber_97 rfl (by omega) ?_
      refine y_geti (k' := 2) fl_X7_24 rfl dX7_takeNumber_98 sh_2 (by decide) PH_r2 ?_
      refine z_aload_n dX7_takeNumber_101 rfl (by omega) ?_
      refine y_geti (k' := 3) fl_X7_41 rfl dX7_takeNumber_102 sh_2 (by decide) PH_r3 ?_
      refine z_iconst dX7_takeNumber_105 ⟨by decide, by decide⟩ ?_
      refine y_iadd dX7_takeNumber_106 (by omega) (by omega) ?_
      refine z_icmp_le (tgt := 114) dX7_takeNumber_107 (by decide) (fun c107 => ?_) (fun c107 => ?_)
      ·
        refine z_iconst dX7_takeNumber_114 ⟨by decide, by decide⟩ ?_
        refine z_istore_n dX7_takeNumber_115 (by decide) rfl lss_3_2 ?_
        refine z_aload_n dX7_takeNumber_116 rfl (by omega) ?_
        refine z_iload_n dX7_takeNumber_117 rfl ?_
        refine z_if_ne (tgt := 130) dX7_takeNumber_118 (by decide) (fun q => False.elim (by omega)) (fun _ => ?_)
        refine z_aload_n dX7_takeNumber_121 rfl (by omega) ?_
        refine y_geti (k' := 5) fl_X7_44 rfl dX7_takeNumber_122 sh_2 (by decide) PH_r5 ?_
        refine z_bipush dX7_takeNumber_125 ⟨by decide, by decide⟩ ?_
        refine z_icmp_le (tgt := 134) dX7_takeNumber_127 (by decide) (fun c127 => ?_) (fun c127 => ?_)
        ·
          refine z_iconst dX7_takeNumber_134 ⟨by decide, by decide⟩ ?_
          refine y_puti (k' := 4) fl_X7_34 rfl dX7_takeNumber_135 sh_2 (by decide)  ?_
          rw [PH_w4]
          refine z_ret (v := none) dX7_takeNumber_138 trivial (Nat.add_zero _).symm (Nat.add_zero _).symm rfl ?_
          refine hQ _ _ ?_
          obtain ⟨i0, i1, i2, i3, i4, i5⟩ := hiv
          have r1 := sc_rg (f := isD) (X := h 3) (show a + 1 ≤ h 2 1 by omega)
          have e1 : sc isD (h 3) (h 2 1) a = sc isD (h 3) (h 2 1) (a + 1) := sc_t (by omega) (decide_eq_true hD)
          rw [e1] at i1 i2 i3 i4 i5
          have yL : ¬ isL (h 3 a) = true := fun z => absurd (of_decide_eq_true z) (by omega)
          have yD : isD (h 3 a) = true := decide_eq_true hD
          have tC : tkc (h 3) (h 2 1) a = (if sc isD (h 3) (h 2 1) (a + 1) = a + 1 then h 3 a - 48 else if sc isD (h 3) (h 2 1) (a + 1) = a + 2 ∧ ¬ h 3 a = 48 then 10 * (h 3 a - 48) + h 3 (a + 1) - 48 else -3) := (if_neg (by omega)).trans ((if_neg yL).trans (if_pos yD))
          rw [tC]
          unfold KV
          generalize sc isD (h 3) (h 2 1) (a + 1) = E at *
          by_cases y1 : E = a + 1
          · rw [if_pos y1]
            have := i2 y1
            omega
          · rw [if_neg y1]
            by_cases y2 : E = a + 2
            · have := i3 y2
              by_cases y3 : h 3 a = 48
              · rw [if_neg (fun z => z.2 y3)]
                omega
              · rw [if_pos ⟨y2, y3⟩]
                have := i5 (by omega)
                omega
            · rw [if_neg (fun z => y2 z.1)]
              by_cases y3 : h 3 a = 48
              · omega
              · have := i4 (by omega) y3
                omega
        ·
          refine z_iconst dX7_takeNumber_130 ⟨by decide, by decide⟩ ?_
          refine z_goto (tgt := 135) dX7_takeNumber_131 (by decide) ?_
          refine y_puti (k' := 4) fl_X7_34 rfl dX7_takeNumber_135 sh_2 (by decide)  ?_
          rw [PH_w4]
          refine z_ret (v := none) dX7_takeNumber_138 trivial (Nat.add_zero _).symm (Nat.add_zero _).symm rfl ?_
          refine hQ _ _ ?_
          obtain ⟨i0, i1, i2, i3, i4, i5⟩ := hiv
          have r1 := sc_rg (f := isD) (X := h 3) (show a + 1 ≤ h 2 1 by omega)
          have e1 : sc isD (h 3) (h 2 1) a = sc isD (h 3) (h 2 1) (a + 1) := sc_t (by omega) (decide_eq_true hD)
          rw [e1] at i1 i2 i3 i4 i5
          have yL : ¬ isL (h 3 a) = true := fun z => absurd (of_decide_eq_true z) (by omega)
          have yD : isD (h 3 a) = true := decide_eq_true hD
          have tC : tkc (h 3) (h 2 1) a = (if sc isD (h 3) (h 2 1) (a + 1) = a + 1 then h 3 a - 48 else if sc isD (h 3) (h 2 1) (a + 1) = a + 2 ∧ ¬ h 3 a = 48 then 10 * (h 3 a - 48) + h 3 (a + 1) - 48 else -3) := (if_neg (by omega)).trans ((if_neg yL).trans (if_pos yD))
          rw [tC]
          unfold KV
          generalize sc isD (h 3) (h 2 1) (a + 1) = E at *
          by_cases y1 : E = a + 1
          · rw [if_pos y1]
            have := i2 y1
            omega
          · rw [if_neg y1]
            by_cases y2 : E = a + 2
            · have := i3 y2
              by_cases y3 : h 3 a = 48
              · rw [if_neg (fun z => z.2 y3)]
                omega
              · rw [if_pos ⟨y2, y3⟩]
                have := i5 (by omega)
                omega
            · rw [if_neg (fun z => y2 z.1)]
              by_cases y3 : h 3 a = 48
              · omega
              · have := i4 (by omega) y3
                omega
      ·
        refine z_iconst dX7_takeNumber_110 ⟨by decide, by decide⟩ ?_
        refine z_goto (tgt := 115) dX7_takeNumber_111 (by decide) ?_
        refine z_istore_n dX7_takeNumber_115 (by decide) rfl lss_3_2 ?_
        refine z_aload_n dX7_takeNumber_116 rfl (by omega) ?_
        refine z_iload_n dX7_takeNumber_117 rfl ?_
        refine z_if_ne (tgt := 130) dX7_takeNumber_118 (by decide) (fun _ => ?_) (fun q => False.elim (by omega))
        refine z_iconst dX7_takeNumber_130 ⟨by decide, by decide⟩ ?_
        refine z_goto (tgt := 135) dX7_takeNumber_131 (by decide) ?_
        refine y_puti (k' := 4) fl_X7_34 rfl dX7_takeNumber_135 sh_2 (by decide)  ?_
        rw [PH_w4]
        refine z_ret (v := none) dX7_takeNumber_138 trivial (Nat.add_zero _).symm (Nat.add_zero _).symm rfl ?_
        refine hQ _ _ ?_
        obtain ⟨i0, i1, i2, i3, i4, i5⟩ := hiv
        have r1 := sc_rg (f := isD) (X := h 3) (show a + 1 ≤ h 2 1 by omega)
        have e1 : sc isD (h 3) (h 2 1) a = sc isD (h 3) (h 2 1) (a + 1) := sc_t (by omega) (decide_eq_true hD)
        rw [e1] at i1 i2 i3 i4 i5
        have yL : ¬ isL (h 3 a) = true := fun z => absurd (of_decide_eq_true z) (by omega)
        have yD : isD (h 3 a) = true := decide_eq_true hD
        have tC : tkc (h 3) (h 2 1) a = (if sc isD (h 3) (h 2 1) (a + 1) = a + 1 then h 3 a - 48 else if sc isD (h 3) (h 2 1) (a + 1) = a + 2 ∧ ¬ h 3 a = 48 then 10 * (h 3 a - 48) + h 3 (a + 1) - 48 else -3) := (if_neg (by omega)).trans ((if_neg yL).trans (if_pos yD))
        rw [tC]
        unfold KV
        generalize sc isD (h 3) (h 2 1) (a + 1) = E at *
        by_cases y1 : E = a + 1
        · rw [if_pos y1]
          have := i2 y1
          omega
        · rw [if_neg y1]
          by_cases y2 : E = a + 2
          · have := i3 y2
            by_cases y3 : h 3 a = 48
            · rw [if_neg (fun z => z.2 y3)]
              omega
            · rw [if_pos ⟨y2, y3⟩]
              have := i5 (by omega)
              omega
          · rw [if_neg (fun z => y2 z.1)]
            by_cases y3 : h 3 a = 48
            · omega
            · have := i4 (by omega) y3
              omega
  ·
    refine z_iconst dX7_takeNumber_14 ⟨by decide, by decide⟩ ?_
    refine z_goto (tgt := 19) dX7_takeNumber_15 (by decide) ?_
    refine z_istore_n dX7_takeNumber_19 (by decide) rfl lss_3_1 ?_
    refine z_aload_n dX7_takeNumber_20 rfl (by omega) ?_
    refine z_iconst dX7_takeNumber_21 ⟨by decide, by decide⟩ ?_
    refine y_puti (k' := 5) fl_X7_44 rfl dX7_takeNumber_22 sh_2 (by decide)  ?_
    rw [PH_w5]
    refine lwX7_num hg hs hL hT (A := a) (by omega) hD (fun v' hiv => ?_) _ a 0 rfl (by omega) (by omega) rfl ⟨by omega, by omega, by omega, by omega, by omega, by omega⟩
    have E1 : sc isD (h 3) (h 2 1) a = sc isD (h 3) (h 2 1) (a + 1) := sc_t (by omega) (decide_eq_true hD)
    have v9 := hiv.1
    rw [E1]
    refine z_iload_n dX7_takeNumber_93 rfl ?_
    refine z_if_eq (tgt := 114) dX7_takeNumber_94 (by decide) (fun c94 => ?_) (fun c94 => ?_)
    ·
      refine z_iconst dX7_takeNumber_114 ⟨by decide, by decide⟩ ?_
      refine z_istore_n dX7_takeNumber_115 (by decide) rfl lss_3_2 ?_
      refine z_aload_n dX7_takeNumber_116 rfl (by omega) ?_
      refine z_iload_n dX7_takeNumber_117 rfl ?_
      refine z_if_ne (tgt := 130) dX7_takeNumber_118 (by decide) (fun q => False.elim (by omega)) (fun _ => ?_)
      refine z_aload_n dX7_takeNumber_121 rfl (by omega) ?_
      refine y_geti (k' := 5) fl_X7_44 rfl dX7_takeNumber_122 sh_2 (by decide) PH_r5 ?_
      refine z_bipush dX7_takeNumber_125 ⟨by decide, by decide⟩ ?_
      refine z_icmp_le (tgt := 134) dX7_takeNumber_127 (by decide) (fun c127 => ?_) (fun c127 => ?_)
      ·
        refine z_iconst dX7_takeNumber_134 ⟨by decide, by decide⟩ ?_
        refine y_puti (k' := 4) fl_X7_34 rfl dX7_takeNumber_135 sh_2 (by decide)  ?_
        rw [PH_w4]
        refine z_ret (v := none) dX7_takeNumber_138 trivial (Nat.add_zero _).symm (Nat.add_zero _).symm rfl ?_
        refine hQ _ _ ?_
        obtain ⟨i0, i1, i2, i3, i4, i5⟩ := hiv
        have r1 := sc_rg (f := isD) (X := h 3) (show a + 1 ≤ h 2 1 by omega)
        have e1 : sc isD (h 3) (h 2 1) a = sc isD (h 3) (h 2 1) (a + 1) := sc_t (by omega) (decide_eq_true hD)
        rw [e1] at i1 i2 i3 i4 i5
        have yL : ¬ isL (h 3 a) = true := fun z => absurd (of_decide_eq_true z) (by omega)
        have yD : isD (h 3 a) = true := decide_eq_true hD
        have tC : tkc (h 3) (h 2 1) a = (if sc isD (h 3) (h 2 1) (a + 1) = a + 1 then h 3 a - 48 else if sc isD (h 3) (h 2 1) (a + 1) = a + 2 ∧ ¬ h 3 a = 48 then 10 * (h 3 a - 48) + h 3 (a + 1) - 48 else -3) := (if_neg (by omega)).trans ((if_neg yL).trans (if_pos yD))
        rw [tC]
        unfold KV
        generalize sc isD (h 3) (h 2 1) (a + 1) = E at *
        by_cases y1 : E = a + 1
        · rw [if_pos y1]
          have := i2 y1
          omega
        · rw [if_neg y1]
          by_cases y2 : E = a + 2
          · have := i3 y2
            by_cases y3 : h 3 a = 48
            · rw [if_neg (fun z => z.2 y3)]
              omega
            · rw [if_pos ⟨y2, y3⟩]
              have := i5 (by omega)
              omega
          · rw [if_neg (fun z => y2 z.1)]
            by_cases y3 : h 3 a = 48
            · omega
            · have := i4 (by omega) y3
              omega
      ·
        refine z_iconst dX7_takeNumber_130 ⟨by decide, by decide⟩ ?_
        refine z_goto (tgt := 135) dX7_takeNumber_131 (by decide) ?_
        refine y_puti (k' := 4) fl_X7_34 rfl dX7_takeNumber_135 sh_2 (by decide)  ?_
        rw [PH_w4]
        refine z_ret (v := none) dX7_takeNumber_138 trivial (Nat.add_zero _).symm (Nat.add_zero _).symm rfl ?_
        refine hQ _ _ ?_
        obtain ⟨i0, i1, i2, i3, i4, i5⟩ := hiv
        have r1 := sc_rg (f := isD) (X := h 3) (show a + 1 ≤ h 2 1 by omega)
        have e1 : sc isD (h 3) (h 2 1) a = sc isD (h 3) (h 2 1) (a + 1) := sc_t (by omega) (decide_eq_true hD)
        rw [e1] at i1 i2 i3 i4 i5
        have yL : ¬ isL (h 3 a) = true := fun z => absurd (of_decide_eq_true z) (by omega)
        have yD : isD (h 3 a) = true := decide_eq_true hD
        have tC : tkc (h 3) (h 2 1) a = (if sc isD (h 3) (h 2 1) (a + 1) = a + 1 then h 3 a - 48 else if sc isD (h 3) (h 2 1) (a + 1) = a + 2 ∧ ¬ h 3 a = 48 then 10 * (h 3 a - 48) + h 3 (a + 1) - 48 else -3) := (if_neg (by omega)).trans ((if_neg yL).trans (if_pos yD))
        rw [tC]
        unfold KV
        generalize sc isD (h 3) (h 2 1) (a + 1) = E at *
        by_cases y1 : E = a + 1
        · rw [if_pos y1]
          have := i2 y1
          omega
        · rw [if_neg y1]
          by_cases y2 : E = a + 2
          · have := i3 y2
            by_cases y3 : h 3 a = 48
            · rw [if_neg (fun z => z.2 y3)]
              omega
            · rw [if_pos ⟨y2, y3⟩]
              have := i5 (by omega)
              omega
          · rw [if_neg (fun z => y2 z.1)]
            by_cases y3 : h 3 a = 48
            · omega
            · have := i4 (by omega) y3
              omega
    ·
      refine z_aload_n dX7_takeNumber_97 rfl (by omega) ?_
      refine y_geti (k' := 2) fl_X7_24 rfl dX7_takeNumber_98 sh_2 (by decide) PH_r2 ?_
      refine z_aload_n dX7_takeNumber_101 rfl (by omega) ?_
      refine y_geti (k' := 3) fl_X7_41 rfl dX7_takeNumber_102 sh_2 (by decide) PH_r3 ?_
      refine z_iconst dX7_takeNumber_105 ⟨by decide, by decide⟩ ?_
      refine y_iadd dX7_takeNumber_106 (by omega) (by omega) ?_
      refine z_icmp_le (tgt := 114) dX7_takeNumber_107 (by decide) (fun c107 => ?_) (fun c107 => ?_)
      ·
        refine z_iconst dX7_takeNumber_114 ⟨by decide, by decide⟩ ?_
        refine z_istore_n dX7_takeNumber_115 (by decide) rfl lss_3_2 ?_
        refine z_aload_n dX7_takeNumber_116 rfl (by omega) ?_
        refine z_iload_n dX7_takeNumber_117 rfl ?_
        refine z_if_ne (tgt := 130) dX7_takeNumber_118 (by decide) (fun q => False.elim (by omega)) (fun _ => ?_)
        refine z_aload_n dX7_takeNumber_121 rfl (by omega) ?_
        refine y_geti (k' := 5) fl_X7_44 rfl dX7_takeNumber_122 sh_2 (by decide) PH_r5 ?_
        refine z_bipush dX7_takeNumber_125 ⟨by decide, by decide⟩ ?_
        refine z_icmp_le (tgt := 134) dX7_takeNumber_127 (by decide) (fun c127 => ?_) (fun c127 => ?_)
        ·
          refine z_iconst dX7_takeNumber_134 ⟨by decide, by decide⟩ ?_
          refine y_puti (k' := 4) fl_X7_34 rfl dX7_takeNumber_135 sh_2 (by decide)  ?_
          rw [PH_w4]
          refine z_ret (v := none) dX7_takeNumber_138 trivial (Nat.add_zero _).symm (Nat.add_zero _).symm rfl ?_
          refine hQ _ _ ?_
          obtain ⟨i0, i1, i2, i3, i4, i5⟩ := hiv
          have r1 := sc_rg (f := isD) (X := h 3) (show a + 1 ≤ h 2 1 by omega)
          have e1 : sc isD (h 3) (h 2 1) a = sc isD (h 3) (h 2 1) (a + 1) := sc_t (by omega) (decide_eq_true hD)
          rw [e1] at i1 i2 i3 i4 i5
          have yL : ¬ isL (h 3 a) = true := fun z => absurd (of_decide_eq_true z) (by omega)
          have yD : isD (h 3 a) = true := decide_eq_true hD
          have tC : tkc (h 3) (h 2 1) a = (if sc isD (h 3) (h 2 1) (a + 1) = a + 1 then h 3 a - 48 else if sc isD (h 3) (h 2 1) (a + 1) = a + 2 ∧ ¬ h 3 a = 48 then 10 * (h 3 a - 48) + h 3 (a + 1) - 48 else -3) := (if_neg (by omega)).trans ((if_neg yL).trans (if_pos yD))
          rw [tC]
          unfold KV
          generalize sc isD (h 3) (h 2 1) (a + 1) = E at *
          by_cases y1 : E = a + 1
          · rw [if_pos y1]
            have := i2 y1
            omega
          · rw [if_neg y1]
            by_cases y2 : E = a + 2
            · have := i3 y2
              by_cases y3 : h 3 a = 48
              · rw [if_neg (fun z => z.2 y3)]
                omega
              · rw [if_pos ⟨y2, y3⟩]
                have := i5 (by omega)
                omega
            · rw [if_neg (fun z => y2 z.1)]
              by_cases y3 : h 3 a = 48
              · omega
              · have := i4 (by omega) y3
                omega
        ·
          refine z_iconst dX7_takeNumber_130 ⟨by decide, by decide⟩ ?_
          refine z_goto (tgt := 135) dX7_takeNumber_131 (by decide) ?_
          refine y_puti (k' := 4) fl_X7_34 rfl dX7_takeNumber_135 sh_2 (by decide)  ?_
          rw [PH_w4]
          refine z_ret (v := none) dX7_takeNumber_138 trivial (Nat.add_zero _).symm (Nat.add_zero _).symm rfl ?_
          refine hQ _ _ ?_
          obtain ⟨i0, i1, i2, i3, i4, i5⟩ := hiv
          have r1 := sc_rg (f := isD) (X := h 3) (show a + 1 ≤ h 2 1 by omega)
          have e1 : sc isD (h 3) (h 2 1) a = sc isD (h 3) (h 2 1) (a + 1) := sc_t (by omega) (decide_eq_true hD)
          rw [e1] at i1 i2 i3 i4 i5
          have yL : ¬ isL (h 3 a) = true := fun z => absurd (of_decide_eq_true z) (by omega)
          have yD : isD (h 3 a) = true := decide_eq_true hD
          have tC : tkc (h 3) (h 2 1) a = (if sc isD (h 3) (h 2 1) (a + 1) = a + 1 then h 3 a - 48 else if sc isD (h 3) (h 2 1) (a + 1) = a + 2 ∧ ¬ h 3 a = 48 then 10 * (h 3 a - 48) + h 3 (a + 1) - 48 else -3) := (if_neg (by omega)).trans ((if_neg yL).trans (if_pos yD))
          rw [tC]
          unfold KV
          generalize sc isD (h 3) (h 2 1) (a + 1) = E at *
          by_cases y1 : E = a + 1
          · rw [if_pos y1]
            have := i2 y1
            omega
          · rw [if_neg y1]
            by_cases y2 : E = a + 2
            · have := i3 y2
              by_cases y3 : h 3 a = 48
              · rw [if_neg (fun z => z.2 y3)]
                omega
              · rw [if_pos ⟨y2, y3⟩]
                have := i5 (by omega)
                omega
            · rw [if_neg (fun z => y2 z.1)]
              by_cases y3 : h 3 a = 48
              · omega
              · have := i4 (by omega) y3
                omega
      ·
        refine z_iconst dX7_takeNumber_110 ⟨by decide, by decide⟩ ?_
        refine z_goto (tgt := 115) dX7_takeNumber_111 (by decide) ?_
        refine z_istore_n dX7_takeNumber_115 (by decide) rfl lss_3_2 ?_
        refine z_aload_n dX7_takeNumber_116 rfl (by omega) ?_
        refine z_iload_n dX7_takeNumber_117 rfl ?_
        refine z_if_ne (tgt := 130) dX7_takeNumber_118 (by decide) (fun _ => ?_) (fun q => False.elim (by omega))
        refine z_iconst dX7_takeNumber_130 ⟨by decide, by decide⟩ ?_
        refine z_goto (tgt := 135) dX7_takeNumber_131 (by decide) ?_
        refine y_puti (k' := 4) fl_X7_34 rfl dX7_takeNumber_135 sh_2 (by decide)  ?_
        rw [PH_w4]
        refine z_ret (v := none) dX7_takeNumber_138 trivial (Nat.add_zero _).symm (Nat.add_zero _).symm rfl ?_
        refine hQ _ _ ?_
        obtain ⟨i0, i1, i2, i3, i4, i5⟩ := hiv
        have r1 := sc_rg (f := isD) (X := h 3) (show a + 1 ≤ h 2 1 by omega)
        have e1 : sc isD (h 3) (h 2 1) a = sc isD (h 3) (h 2 1) (a + 1) := sc_t (by omega) (decide_eq_true hD)
        rw [e1] at i1 i2 i3 i4 i5
        have yL : ¬ isL (h 3 a) = true := fun z => absurd (of_decide_eq_true z) (by omega)
        have yD : isD (h 3 a) = true := decide_eq_true hD
        have tC : tkc (h 3) (h 2 1) a = (if sc isD (h 3) (h 2 1) (a + 1) = a + 1 then h 3 a - 48 else if sc isD (h 3) (h 2 1) (a + 1) = a + 2 ∧ ¬ h 3 a = 48 then 10 * (h 3 a - 48) + h 3 (a + 1) - 48 else -3) := (if_neg (by omega)).trans ((if_neg yL).trans (if_pos yD))
        rw [tC]
        unfold KV
        generalize sc isD (h 3) (h 2 1) (a + 1) = E at *
        by_cases y1 : E = a + 1
        · rw [if_pos y1]
          have := i2 y1
          omega
        · rw [if_neg y1]
          by_cases y2 : E = a + 2
          · have := i3 y2
            by_cases y3 : h 3 a = 48
            · rw [if_neg (fun z => z.2 y3)]
              omega
            · rw [if_pos ⟨y2, y3⟩]
              have := i5 (by omega)
              omega
          · rw [if_neg (fun z => y2 z.1)]
            by_cases y3 : h 3 a = 48
            · omega
            · have := i4 (by omega) y3
              omega
theorem qX7_nextToken {l : Launch} {g h F : zH} {Q : zQt} {s a p k v f : Int} (hg : zGd g) (hs : s = 4 ∨ s = 14) (hL : 0 ≤ h 2 1 ∧ h 2 1 ≤ 150) (hT : ∀ i, 0 ≤ i → i < h 2 1 → 0 ≤ h 3 i ∧ h 3 i ≤ 255) (a0 : 0 ≤ a) (a1 : a ≤ h 2 1) (hQ : ∀ k' v', KV (kc (h 3) (h 2 1) a) k' v' → Q none (SHL, g) (PH h s F (ke (h 3) (h 2 1) a) (ks (h 3) (h 2 1) a) k' v' f)) : zC l mX7_nextToken [zr 2] (SHL, g) (PH h s F a p k v f) Q := by
  refine z_method kX7_nextToken.1 rfl (Nat.le_of_ble_eq_true rfl) (fun hok hh => ?_)
  refine lwX7_skip hg hs hL hT (A := a) ?_ _ a rfl a0 a1 rfl
  have r1 := ks_r (X := h 3) a1
  unfold ks at r1
  have hQ2 : ∀ k' v', KV (tkc (h 3) (h 2 1) (sc isB (h 3) (h 2 1) a)) k' v' → Q none (SHL, g) (PH h s F (tke (h 3) (h 2 1) (sc isB (h 3) (h 2 1) a)) (sc isB (h 3) (h 2 1) a) k' v' f) := hQ
  clear hQ
  generalize sc isB (h 3) (h 2 1) a = q at *
  refine z_aload_n dX7_nextToken_38 rfl (by omega) ?_
  refine z_aload_n dX7_nextToken_39 rfl (by omega) ?_
  refine y_geti (k' := 2) fl_X7_24 rfl dX7_nextToken_40 sh_2 (by decide) PH_r2 ?_
  refine y_puti (k' := 3) fl_X7_41 rfl dX7_nextToken_43 sh_2 (by decide)  ?_
  rw [PH_w3]
  refine z_aload_n dX7_nextToken_46 rfl (by omega) ?_
  refine y_geti (k' := 2) fl_X7_24 rfl dX7_nextToken_47 sh_2 (by decide) PH_r2 ?_
  refine z_aload_n dX7_nextToken_50 rfl (by omega) ?_
  refine y_geti (k' := 1) fl_X7_15 rfl dX7_nextToken_51 sh_2 (by decide) (PH_l hs) ?_
  refine z_icmp_lt (tgt := 65) dX7_nextToken_54 (by decide) (fun c54 => ?_) (fun c54 => ?_)
  ·
    refine z_aload_n dX7_nextToken_65 rfl (by omega) ?_
    refine y_geta (k' := 0) fl_X7_9 rfl dX7_nextToken_66 sh_2 (by decide) (gf_2_0 hg) ?_
    refine z_aload_n dX7_nextToken_69 rfl (by omega) ?_
    refine y_geti (k' := 2) fl_X7_24 rfl dX7_nextToken_70 sh_2 (by decide) PH_r2 ?_
    refine z_iaload dX7_nextToken_73 sh_3 (by omega) (by omega) (PH_x hs) ?_
    refine z_callS (T := mX7_isLetter) (As := [_]) kX7_isLetter ml_X7_101 ⟨by decide, by decide⟩ dX7_nextToken_74 rfl rfl (Nat.le_of_ble_eq_true rfl) (Nat.le_refl _) (Nat.le_refl _) (qX7_isLetter (fun b74 => ?_) (fun b74 => ?_))
    ·
      refine z_if_eq (tgt := 87) dX7_nextToken_77 (by decide) (fun q => False.elim (by omega)) (fun _ => ?_)
      refine z_aload_n dX7_nextToken_80 rfl (by omega) ?_
      refine z_callV (T := mX7_takeLetters) (As := []) kX7_takeLetters ml_X7_105 ⟨by decide, by decide⟩ dX7_nextToken_81 rfl rfl (Nat.le_of_ble_eq_true rfl) sh_2 ⟨by decide, rfl⟩ (Nat.le_refl _) (Nat.le_refl _) (qX7_takeLetters hg hs hL hT (by omega) (by omega) ?_)
      refine z_goto (tgt := 142) dX7_nextToken_84 (by decide) ?_
      first
        | (have tE : tke (h 3) (h 2 1) q = q := if_pos (by omega)
           rw [tE] at hQ2
           exact z_ret (v := none) dX7_nextToken_142 trivial (Nat.add_zero _).symm (Nat.add_zero _).symm rfl (hQ2 _ _ (Or.inl ⟨if_pos (by omega), rfl⟩)))
        | (have h8 := hT q (by omega) (by omega)
           have n0 : ¬ h 2 1 ≤ q := by omega
           have y1 : isL (h 3 q) = true := decide_eq_true b74
           have tE : tke (h 3) (h 2 1) q = sc isL (h 3) (h 2 1) (q + 1) := (if_neg n0).trans (if_pos y1)
           have tC : tkc (h 3) (h 2 1) q = if sc isL (h 3) (h 2 1) (q + 1) = q + 1 then 1000 + h 3 q else -3 := (if_neg n0).trans (if_pos y1)
           rw [tE, tC] at hQ2
           refine z_ret (v := none) dX7_nextToken_142 trivial (Nat.add_zero _).symm (Nat.add_zero _).symm rfl (hQ2 _ _ ?_)
           unfold KV
           split <;> omega)
        | (have n0 : ¬ h 2 1 ≤ q := by omega
           have y1 : ¬ isL (h 3 q) = true := fun z => absurd (of_decide_eq_true z) b74
           have y2 : isD (h 3 q) = true := decide_eq_true b96
           have tE : tke (h 3) (h 2 1) q = sc isD (h 3) (h 2 1) (q + 1) := (if_neg n0).trans ((if_neg y1).trans (if_pos y2))
           rw [tE] at hQ2
           exact z_ret (v := none) dX7_nextToken_142 trivial (Nat.add_zero _).symm (Nat.add_zero _).symm rfl (hQ2 _ _ hkv))
        | (have n0 : ¬ h 2 1 ≤ q := by omega
           have y1 : ¬ isL (h 3 q) = true := fun z => absurd (of_decide_eq_true z) b74
           have y2 : ¬ isD (h 3 q) = true := fun z => absurd (of_decide_eq_true z) b96
           have tE : tke (h 3) (h 2 1) q = q + 1 := (if_neg n0).trans ((if_neg y1).trans (if_neg y2))
           have tC : tkc (h 3) (h 2 1) q = if h 3 q = 59 then -2 else -3 := (if_neg n0).trans ((if_neg y1).trans (if_neg y2))
           rw [tE, tC] at hQ2
           refine z_ret (v := none) dX7_nextToken_142 trivial (Nat.add_zero _).symm (Nat.add_zero _).symm rfl (hQ2 _ _ ?_)
           unfold KV
           split <;> omega)
    ·
      refine z_if_eq (tgt := 87) dX7_nextToken_77 (by decide) (fun _ => ?_) (fun q => False.elim (by omega))
      refine z_aload_n dX7_nextToken_87 rfl (by omega) ?_
      refine y_geta (k' := 0) fl_X7_9 rfl dX7_nextToken_88 sh_2 (by decide) (gf_2_0 hg) ?_
      refine z_aload_n dX7_nextToken_91 rfl (by omega) ?_
      refine y_geti (k' := 2) fl_X7_24 rfl dX7_nextToken_92 sh_2 (by decide) PH_r2 ?_
      refine z_iaload dX7_nextToken_95 sh_3 (by omega) (by omega) (PH_x hs) ?_
      refine z_callS (T := mX7_isDigit) (As := [_]) kX7_isDigit ml_X7_108 ⟨by decide, by decide⟩ dX7_nextToken_96 rfl rfl (Nat.le_of_ble_eq_true rfl) (Nat.le_refl _) (Nat.le_refl _) (qX7_isDigit (fun b96 => ?_) (fun b96 => ?_))
      ·
        refine z_if_eq (tgt := 109) dX7_nextToken_99 (by decide) (fun q => False.elim (by omega)) (fun _ => ?_)
        refine z_aload_n dX7_nextToken_102 rfl (by omega) ?_
        refine z_callV (T := mX7_takeNumber) (As := []) kX7_takeNumber ml_X7_111 ⟨by decide, by decide⟩ dX7_nextToken_103 rfl rfl (Nat.le_of_ble_eq_true rfl) sh_2 ⟨by decide, rfl⟩ (Nat.le_refl _) (Nat.le_refl _) (qX7_takeNumber hg hs hL hT (by omega) (by omega) rfl b96 (fun k' v' hkv => ?_))
        refine z_goto (tgt := 142) dX7_nextToken_106 (by decide) ?_
        first
          | (have tE : tke (h 3) (h 2 1) q = q := if_pos (by omega)
             rw [tE] at hQ2
             exact z_ret (v := none) dX7_nextToken_142 trivial (Nat.add_zero _).symm (Nat.add_zero _).symm rfl (hQ2 _ _ (Or.inl ⟨if_pos (by omega), rfl⟩)))
          | (have h8 := hT q (by omega) (by omega)
             have n0 : ¬ h 2 1 ≤ q := by omega
             have y1 : isL (h 3 q) = true := decide_eq_true b74
             have tE : tke (h 3) (h 2 1) q = sc isL (h 3) (h 2 1) (q + 1) := (if_neg n0).trans (if_pos y1)
             have tC : tkc (h 3) (h 2 1) q = if sc isL (h 3) (h 2 1) (q + 1) = q + 1 then 1000 + h 3 q else -3 := (if_neg n0).trans (if_pos y1)
             rw [tE, tC] at hQ2
             refine z_ret (v := none) dX7_nextToken_142 trivial (Nat.add_zero _).symm (Nat.add_zero _).symm rfl (hQ2 _ _ ?_)
             unfold KV
             split <;> omega)
          | (have n0 : ¬ h 2 1 ≤ q := by omega
             have y1 : ¬ isL (h 3 q) = true := fun z => absurd (of_decide_eq_true z) b74
             have y2 : isD (h 3 q) = true := decide_eq_true b96
             have tE : tke (h 3) (h 2 1) q = sc isD (h 3) (h 2 1) (q + 1) := (if_neg n0).trans ((if_neg y1).trans (if_pos y2))
             rw [tE] at hQ2
             exact z_ret (v := none) dX7_nextToken_142 trivial (Nat.add_zero _).symm (Nat.add_zero _).symm rfl (hQ2 _ _ hkv))
          | (have n0 : ¬ h 2 1 ≤ q := by omega
             have y1 : ¬ isL (h 3 q) = true := fun z => absurd (of_decide_eq_true z) b74
             have y2 : ¬ isD (h 3 q) = true := fun z => absurd (of_decide_eq_true z) b96
             have tE : tke (h 3) (h 2 1) q = q + 1 := (if_neg n0).trans ((if_neg y1).trans (if_neg y2))
             have tC : tkc (h 3) (h 2 1) q = if h 3 q = 59 then -2 else -3 := (if_neg n0).trans ((if_neg y1).trans (if_neg y2))
             rw [tE, tC] at hQ2
             refine z_ret (v := none) dX7_nextToken_142 trivial (Nat.add_zero _).symm (Nat.add_zero _).symm rfl (hQ2 _ _ ?_)
             unfold KV
             split <;> omega)
      ·
        refine z_if_eq (tgt := 109) dX7_nextToken_99 (by decide) (fun _ => ?_) (fun q => False.elim (by omega))
        refine z_aload_n dX7_nextToken_109 rfl (by omega) ?_
        refine z_aload_n dX7_nextToken_110 rfl (by omega) ?_
        refine y_geta (k' := 0) fl_X7_9 rfl dX7_nextToken_111 sh_2 (by decide) (gf_2_0 hg) ?_
        refine z_aload_n dX7_nextToken_114 rfl (by omega) ?_
        refine y_geti (k' := 2) fl_X7_24 rfl dX7_nextToken_115 sh_2 (by decide) PH_r2 ?_
        refine z_iaload dX7_nextToken_118 sh_3 (by omega) (by omega) (PH_x hs) ?_
        refine z_bipush dX7_nextToken_119 ⟨by decide, by decide⟩ ?_
        refine z_icmp_ne (tgt := 128) dX7_nextToken_121 (by decide) (fun c121 => ?_) (fun c121 => ?_)
        ·
          refine z_iconst dX7_nextToken_128 ⟨by decide, by decide⟩ ?_
          refine y_puti (k' := 4) fl_X7_34 rfl dX7_nextToken_129 sh_2 (by decide)  ?_
          rw [PH_w4]
          refine z_aload_n dX7_nextToken_132 rfl (by omega) ?_
          refine z_dup dX7_nextToken_133 rfl ?_
          refine y_geti (k' := 2) fl_X7_24 rfl dX7_nextToken_134 sh_2 (by decide) PH_r2 ?_
          refine z_iconst dX7_nextToken_137 ⟨by decide, by decide⟩ ?_
          refine y_iadd dX7_nextToken_138 (by omega) (by omega) ?_
          refine y_puti (k' := 2) fl_X7_24 rfl dX7_nextToken_139 sh_2 (by decide)  ?_
          rw [PH_w2]
          first
            | (have tE : tke (h 3) (h 2 1) q = q := if_pos (by omega)
               rw [tE] at hQ2
               exact z_ret (v := none) dX7_nextToken_142 trivial (Nat.add_zero _).symm (Nat.add_zero _).symm rfl (hQ2 _ _ (Or.inl ⟨if_pos (by omega), rfl⟩)))
            | (have h8 := hT q (by omega) (by omega)
               have n0 : ¬ h 2 1 ≤ q := by omega
               have y1 : isL (h 3 q) = true := decide_eq_true b74
               have tE : tke (h 3) (h 2 1) q = sc isL (h 3) (h 2 1) (q + 1) := (if_neg n0).trans (if_pos y1)
               have tC : tkc (h 3) (h 2 1) q = if sc isL (h 3) (h 2 1) (q + 1) = q + 1 then 1000 + h 3 q else -3 := (if_neg n0).trans (if_pos y1)
               rw [tE, tC] at hQ2
               refine z_ret (v := none) dX7_nextToken_142 trivial (Nat.add_zero _).symm (Nat.add_zero _).symm rfl (hQ2 _ _ ?_)
               unfold KV
               split <;> omega)
            | (have n0 : ¬ h 2 1 ≤ q := by omega
               have y1 : ¬ isL (h 3 q) = true := fun z => absurd (of_decide_eq_true z) b74
               have y2 : isD (h 3 q) = true := decide_eq_true b96
               have tE : tke (h 3) (h 2 1) q = sc isD (h 3) (h 2 1) (q + 1) := (if_neg n0).trans ((if_neg y1).trans (if_pos y2))
               rw [tE] at hQ2
               exact z_ret (v := none) dX7_nextToken_142 trivial (Nat.add_zero _).symm (Nat.add_zero _).symm rfl (hQ2 _ _ hkv))
            | (have n0 : ¬ h 2 1 ≤ q := by omega
               have y1 : ¬ isL (h 3 q) = true := fun z => absurd (of_decide_eq_true z) b74
               have y2 : ¬ isD (h 3 q) = true := fun z => absurd (of_decide_eq_true z) b96
               have tE : tke (h 3) (h 2 1) q = q + 1 := (if_neg n0).trans ((if_neg y1).trans (if_neg y2))
               have tC : tkc (h 3) (h 2 1) q = if h 3 q = 59 then -2 else -3 := (if_neg n0).trans ((if_neg y1).trans (if_neg y2))
               rw [tE, tC] at hQ2
               refine z_ret (v := none) dX7_nextToken_142 trivial (Nat.add_zero _).symm (Nat.add_zero _).symm rfl (hQ2 _ _ ?_)
               unfold KV
               split <;> omega)
        ·
          refine z_iconst dX7_nextToken_124 ⟨by decide, by decide⟩ ?_
          refine z_goto (tgt := 129) dX7_nextToken_125 (by decide) ?_
          refine y_puti (k' := 4) fl_X7_34 rfl dX7_nextToken_129 sh_2 (by decide)  ?_
          rw [PH_w4]
          refine z_aload_n dX7_nextToken_132 rfl (by omega) ?_
          refine z_dup dX7_nextToken_133 rfl ?_
          refine y_geti (k' := 2) fl_X7_24 rfl dX7_nextToken_134 sh_2 (by decide) PH_r2 ?_
          refine z_iconst dX7_nextToken_137 ⟨by decide, by decide⟩ ?_
          refine y_iadd dX7_nextToken_138 (by omega) (by omega) ?_
          refine y_puti (k' := 2) fl_X7_24 rfl dX7_nextToken_139 sh_2 (by decide)  ?_
          rw [PH_w2]
          first
            | (have tE : tke (h 3) (h 2 1) q = q := if_pos (by omega)
               rw [tE] at hQ2
               exact z_ret (v := none) dX7_nextToken_142 trivial (Nat.add_zero _).symm (Nat.add_zero _).symm rfl (hQ2 _ _ (Or.inl ⟨if_pos (by omega), rfl⟩)))
            | (have h8 := hT q (by omega) (by omega)
               have n0 : ¬ h 2 1 ≤ q := by omega
               have y1 : isL (h 3 q) = true := decide_eq_true b74
               have tE : tke (h 3) (h 2 1) q = sc isL (h 3) (h 2 1) (q + 1) := (if_neg n0).trans (if_pos y1)
               have tC : tkc (h 3) (h 2 1) q = if sc isL (h 3) (h 2 1) (q + 1) = q + 1 then 1000 + h 3 q else -3 := (if_neg n0).trans (if_pos y1)
               rw [tE, tC] at hQ2
               refine z_ret (v := none) dX7_nextToken_142 trivial (Nat.add_zero _).symm (Nat.add_zero _).symm rfl (hQ2 _ _ ?_)
               unfold KV
               split <;> omega)
            | (have n0 : ¬ h 2 1 ≤ q := by omega
               have y1 : ¬ isL (h 3 q) = true := fun z => absurd (of_decide_eq_true z) b74
               have y2 : isD (h 3 q) = true := decide_eq_true b96
               have tE : tke (h 3) (h 2 1) q = sc isD (h 3) (h 2 1) (q + 1) := (if_neg n0).trans ((if_neg y1).trans (if_pos y2))
               rw [tE] at hQ2
               exact z_ret (v := none) dX7_nextToken_142 trivial (Nat.add_zero _).symm (Nat.add_zero _).symm rfl (hQ2 _ _ hkv))
            | (have n0 : ¬ h 2 1 ≤ q := by omega
               have y1 : ¬ isL (h 3 q) = true := fun z => absurd (of_decide_eq_true z) b74
               have y2 : ¬ isD (h 3 q) = true := fun z => absurd (of_decide_eq_true z) b96
               have tE : tke (h 3) (h 2 1) q = q + 1 := (if_neg n0).trans ((if_neg y1).trans (if_neg y2))
               have tC : tkc (h 3) (h 2 1) q = if h 3 q = 59 then -2 else -3 := (if_neg n0).trans ((if_neg y1).trans (if_neg y2))
               rw [tE, tC] at hQ2
               refine z_ret (v := none) dX7_nextToken_142 trivial (Nat.add_zero _).symm (Nat.add_zero _).symm rfl (hQ2 _ _ ?_)
               unfold KV
               split <;> omega)
  ·
    refine z_aload_n dX7_nextToken_57 rfl (by omega) ?_
    refine z_iconst dX7_nextToken_58 ⟨by decide, by decide⟩ ?_
    refine y_puti (k' := 4) fl_X7_34 rfl dX7_nextToken_59 sh_2 (by decide)  ?_
    rw [PH_w4]
    refine z_goto (tgt := 142) dX7_nextToken_62 (by decide) ?_
    first
      | (have tE : tke (h 3) (h 2 1) q = q := if_pos (by omega)
         rw [tE] at hQ2
         exact z_ret (v := none) dX7_nextToken_142 trivial (Nat.add_zero _).symm (Nat.add_zero _).symm rfl (hQ2 _ _ (Or.inl ⟨if_pos (by omega), rfl⟩)))
      | (have h8 := hT q (by omega) (by omega)
         have n0 : ¬ h 2 1 ≤ q := by omega
         have y1 : isL (h 3 q) = true := decide_eq_true b74
         have tE : tke (h 3) (h 2 1) q = sc isL (h 3) (h 2 1) (q + 1) := (if_neg n0).trans (if_pos y1)
         have tC : tkc (h 3) (h 2 1) q = if sc isL (h 3) (h 2 1) (q + 1) = q + 1 then 1000 + h 3 q else -3 := (if_neg n0).trans (if_pos y1)
         rw [tE, tC] at hQ2
         refine z_ret (v := none) dX7_nextToken_142 trivial (Nat.add_zero _).symm (Nat.add_zero _).symm rfl (hQ2 _ _ ?_)
         unfold KV
         split <;> omega)
      | (have n0 : ¬ h 2 1 ≤ q := by omega
         have y1 : ¬ isL (h 3 q) = true := fun z => absurd (of_decide_eq_true z) b74
         have y2 : isD (h 3 q) = true := decide_eq_true b96
         have tE : tke (h 3) (h 2 1) q = sc isD (h 3) (h 2 1) (q + 1) := (if_neg n0).trans ((if_neg y1).trans (if_pos y2))
         rw [tE] at hQ2
         exact z_ret (v := none) dX7_nextToken_142 trivial (Nat.add_zero _).symm (Nat.add_zero _).symm rfl (hQ2 _ _ hkv))
      | (have n0 : ¬ h 2 1 ≤ q := by omega
         have y1 : ¬ isL (h 3 q) = true := fun z => absurd (of_decide_eq_true z) b74
         have y2 : ¬ isD (h 3 q) = true := fun z => absurd (of_decide_eq_true z) b96
         have tE : tke (h 3) (h 2 1) q = q + 1 := (if_neg n0).trans ((if_neg y1).trans (if_neg y2))
         have tC : tkc (h 3) (h 2 1) q = if h 3 q = 59 then -2 else -3 := (if_neg n0).trans ((if_neg y1).trans (if_neg y2))
         rw [tE, tC] at hQ2
         refine z_ret (v := none) dX7_nextToken_142 trivial (Nat.add_zero _).symm (Nat.add_zero _).symm rfl (hQ2 _ _ ?_)
         unfold KV
         split <;> omega)
theorem qX7_readNumber {l : Launch} {g h F : zH} {Q : zQt} {s a p k v : Int} (hg : zGd g) (hs : s = 4 ∨ s = 14) (hL : 0 ≤ h 2 1 ∧ h 2 1 ≤ 150) (hT : ∀ i, 0 ≤ i → i < h 2 1 → 0 ≤ h 3 i ∧ h 3 i ≤ 255) {lo hi : Int} (a0 : 0 ≤ a) (a1 : a ≤ h 2 1) (lo0 : 0 ≤ lo) (hi1 : hi ≤ 99) (h1 : ∀ k' v', (lo ≤ kc (h 3) (h 2 1) a ∧ kc (h 3) (h 2 1) a ≤ hi) → Q (some (zi (kc (h 3) (h 2 1) a))) (SHL, g) (PH h s F (ke (h 3) (h 2 1) a) (ks (h 3) (h 2 1) a) k' v' 0)) (h0 : ∀ k' v', ¬ (lo ≤ kc (h 3) (h 2 1) a ∧ kc (h 3) (h 2 1) a ≤ hi) → Q (some (zi v')) (SHL, g) (PH h s F (ke (h 3) (h 2 1) a) (ks (h 3) (h 2 1) a) k' v' 1)) : zC l mX7_readNumber [zr 2, zi lo, zi hi] (SHL, g) (PH h s F a p k v 0) Q := by
  refine z_method kX7_readNumber.1 rfl (Nat.le_of_ble_eq_true rfl) (fun hok hh => ?_)
  refine z_aload_n dX7_readNumber_0 rfl (by omega) ?_
  refine y_getz (k' := 6) fl_X7_27 rfl dX7_readNumber_1 sh_2 (by decide) PH_r6 ?_
  refine z_if_eq (tgt := 9) dX7_readNumber_4 (by decide) (fun _ => ?_) (fun q => False.elim (by omega))
  refine z_aload_n dX7_readNumber_9 rfl (by omega) ?_
  refine z_callV (T := mX7_nextToken) (As := []) kX7_nextToken ml_X7_31 ⟨by decide, by decide⟩ dX7_readNumber_10 rfl rfl (Nat.le_of_ble_eq_true rfl) sh_2 ⟨by decide, rfl⟩ (Nat.le_refl _) (Nat.le_refl _) (qX7_nextToken hg hs hL hT (by omega) (by omega) (fun k' v' hkv => ?_))
  refine z_aload_n dX7_readNumber_13 rfl (by omega) ?_
  refine z_aload_n dX7_readNumber_14 rfl (by omega) ?_
  refine y_geti (k' := 4) fl_X7_34 rfl dX7_readNumber_15 sh_2 (by decide) PH_r4 ?_
  refine z_iconst dX7_readNumber_18 ⟨by decide, by decide⟩ ?_
  refine z_icmp_ne (tgt := 38) dX7_readNumber_19 (by decide) (fun c19 => ?_) (fun c19 => ?_)
  ·
    refine z_iconst dX7_readNumber_38 ⟨by decide, by decide⟩ ?_
    refine z_goto (tgt := 43) dX7_readNumber_39 (by decide) ?_
    refine y_putz (k' := 6) fl_X7_27 rfl dX7_readNumber_43 sh_2 (by decide) (by omega) ?_
    rw [PH_w6]
    refine z_aload_n dX7_readNumber_46 rfl (by omega) ?_
    refine y_geti (k' := 5) fl_X7_44 rfl dX7_readNumber_47 sh_2 (by decide) PH_r5 ?_
    refine z_ret (v := some (zi _)) dX7_readNumber_50 trivial (Nat.add_zero _).symm (Nat.add_zero _).symm rfl ?_
    unfold KV at hkv
    first
      | exact h0 _ _ (by omega)
      | (have e : v' = kc (h 3) (h 2 1) a := by omega
         have z := h1 k' v' (by omega)
         rw [← e] at z
         exact z)
  ·
    refine z_aload_n dX7_readNumber_22 rfl (by omega) ?_
    refine y_geti (k' := 5) fl_X7_44 rfl dX7_readNumber_23 sh_2 (by decide) PH_r5 ?_
    refine z_iload_n dX7_readNumber_26 rfl ?_
    refine z_icmp_lt (tgt := 38) dX7_readNumber_27 (by decide) (fun c27 => ?_) (fun c27 => ?_)
    ·
      refine z_iconst dX7_readNumber_38 ⟨by decide, by decide⟩ ?_
      refine z_goto (tgt := 43) dX7_readNumber_39 (by decide) ?_
      refine y_putz (k' := 6) fl_X7_27 rfl dX7_readNumber_43 sh_2 (by decide) (by omega) ?_
      rw [PH_w6]
      refine z_aload_n dX7_readNumber_46 rfl (by omega) ?_
      refine y_geti (k' := 5) fl_X7_44 rfl dX7_readNumber_47 sh_2 (by decide) PH_r5 ?_
      refine z_ret (v := some (zi _)) dX7_readNumber_50 trivial (Nat.add_zero _).symm (Nat.add_zero _).symm rfl ?_
      unfold KV at hkv
      first
        | exact h0 _ _ (by omega)
        | (have e : v' = kc (h 3) (h 2 1) a := by omega
           have z := h1 k' v' (by omega)
           rw [← e] at z
           exact z)
    ·
      refine z_aload_n dX7_readNumber_30 rfl (by omega) ?_
      refine y_geti (k' := 5) fl_X7_44 rfl dX7_readNumber_31 sh_2 (by decide) PH_r5 ?_
      refine z_iload_n dX7_readNumber_34 rfl ?_
      refine z_icmp_le (tgt := 42) dX7_readNumber_35 (by decide) (fun c35 => ?_) (fun c35 => ?_)
      ·
        refine z_iconst dX7_readNumber_42 ⟨by decide, by decide⟩ ?_
        refine y_putz (k' := 6) fl_X7_27 rfl dX7_readNumber_43 sh_2 (by decide) (by omega) ?_
        rw [PH_w6]
        refine z_aload_n dX7_readNumber_46 rfl (by omega) ?_
        refine y_geti (k' := 5) fl_X7_44 rfl dX7_readNumber_47 sh_2 (by decide) PH_r5 ?_
        refine z_ret (v := some (zi _)) dX7_readNumber_50 trivial (Nat.add_zero _).symm (Nat.add_zero _).symm rfl ?_
        unfold KV at hkv
        first
          | exact h0 _ _ (by omega)
          | (have e : v' = kc (h 3) (h 2 1) a := by omega
             have z := h1 k' v' (by omega)
             rw [← e] at z
             exact z)
      ·
        refine z_iconst dX7_readNumber_38 ⟨by decide, by decide⟩ ?_
        refine z_goto (tgt := 43) dX7_readNumber_39 (by decide) ?_
        refine y_putz (k' := 6) fl_X7_27 rfl dX7_readNumber_43 sh_2 (by decide) (by omega) ?_
        rw [PH_w6]
        refine z_aload_n dX7_readNumber_46 rfl (by omega) ?_
        refine y_geti (k' := 5) fl_X7_44 rfl dX7_readNumber_47 sh_2 (by decide) PH_r5 ?_
        refine z_ret (v := some (zi _)) dX7_readNumber_50 trivial (Nat.add_zero _).symm (Nat.add_zero _).symm rfl ?_
        unfold KV at hkv
        first
          | exact h0 _ _ (by omega)
          | (have e : v' = kc (h 3) (h 2 1) a := by omega
             have z := h1 k' v' (by omega)
             rw [← e] at z
             exact z)
theorem qX7_readNumber_f {l : Launch} {g h F : zH} {Q : zQt} {s a p k v : Int} (hg : zGd g) (hs : s = 4 ∨ s = 14) {lo hi : Int} (hQ : Q (some (zi lo)) (SHL, g) (PH h s F a p k v 1)) : zC l mX7_readNumber [zr 2, zi lo, zi hi] (SHL, g) (PH h s F a p k v 1) Q := by
  refine z_method kX7_readNumber.1 rfl (Nat.le_of_ble_eq_true rfl) (fun hok hh => ?_)
  refine z_aload_n dX7_readNumber_0 rfl (by omega) ?_
  refine y_getz (k' := 6) fl_X7_27 rfl dX7_readNumber_1 sh_2 (by decide) PH_r6 ?_
  refine z_if_eq (tgt := 9) dX7_readNumber_4 (by decide) (fun q => False.elim (by omega)) (fun _ => ?_)
  refine z_iload_n dX7_readNumber_7 rfl ?_
  refine z_ret (v := some (zi _)) dX7_readNumber_8 trivial (Nat.add_zero _).symm (Nat.add_zero _).symm rfl ?_
  exact hQ
theorem qX7_refuseAlike {l : Launch} {g h F : zH} {Q : zQt} {s a p k v : Int} (hg : zGd g) (hs : s = 4 ∨ s = 14) {x y : Int} (h1 : x = y → Q none (SHL, g) (PH h s F a p k v 1)) (h0 : ¬ x = y → Q none (SHL, g) (PH h s F a p k v 0)) : zC l mX7_refuseAlike [zr 2, zi x, zi y] (SHL, g) (PH h s F a p k v 0) Q := by
  refine z_method kX7_refuseAlike.1 rfl (Nat.le_of_ble_eq_true rfl) (fun hok hh => ?_)
  refine z_aload_n dX7_refuseAlike_0 rfl (by omega) ?_
  refine z_aload_n dX7_refuseAlike_1 rfl (by omega) ?_
  refine y_getz (k' := 6) fl_X7_27 rfl dX7_refuseAlike_2 sh_2 (by decide) PH_r6 ?_
  refine z_if_ne (tgt := 13) dX7_refuseAlike_5 (by decide) (fun q => False.elim (by omega)) (fun _ => ?_)
  refine z_iload_n dX7_refuseAlike_8 rfl ?_
  refine z_iload_n dX7_refuseAlike_9 rfl ?_
  refine z_icmp_ne (tgt := 17) dX7_refuseAlike_10 (by decide) (fun c10 => ?_) (fun c10 => ?_)
  ·
    refine z_iconst dX7_refuseAlike_17 ⟨by decide, by decide⟩ ?_
    refine y_putz (k' := 6) fl_X7_27 rfl dX7_refuseAlike_18 sh_2 (by decide) (by omega) ?_
    rw [PH_w6]
    refine z_ret (v := none) dX7_refuseAlike_21 trivial (Nat.add_zero _).symm (Nat.add_zero _).symm rfl ?_
    first
      | exact h1 (by omega)
      | exact h0 (by omega)
  ·
    refine z_iconst dX7_refuseAlike_13 ⟨by decide, by decide⟩ ?_
    refine z_goto (tgt := 18) dX7_refuseAlike_14 (by decide) ?_
    refine y_putz (k' := 6) fl_X7_27 rfl dX7_refuseAlike_18 sh_2 (by decide) (by omega) ?_
    rw [PH_w6]
    refine z_ret (v := none) dX7_refuseAlike_21 trivial (Nat.add_zero _).symm (Nat.add_zero _).symm rfl ?_
    first
      | exact h1 (by omega)
      | exact h0 (by omega)
theorem qX7_refuseAlike_f {l : Launch} {g h F : zH} {Q : zQt} {s a p k v : Int} (hg : zGd g) (hs : s = 4 ∨ s = 14) {x y : Int} (hQ : Q none (SHL, g) (PH h s F a p k v 1)) : zC l mX7_refuseAlike [zr 2, zi x, zi y] (SHL, g) (PH h s F a p k v 1) Q := by
  refine z_method kX7_refuseAlike.1 rfl (Nat.le_of_ble_eq_true rfl) (fun hok hh => ?_)
  refine z_aload_n dX7_refuseAlike_0 rfl (by omega) ?_
  refine z_aload_n dX7_refuseAlike_1 rfl (by omega) ?_
  refine y_getz (k' := 6) fl_X7_27 rfl dX7_refuseAlike_2 sh_2 (by decide) PH_r6 ?_
  refine z_if_ne (tgt := 13) dX7_refuseAlike_5 (by decide) (fun _ => ?_) (fun q => False.elim (by omega))
  refine z_iconst dX7_refuseAlike_13 ⟨by decide, by decide⟩ ?_
  refine z_goto (tgt := 18) dX7_refuseAlike_14 (by decide) ?_
  refine y_putz (k' := 6) fl_X7_27 rfl dX7_refuseAlike_18 sh_2 (by decide) (by omega) ?_
  rw [PH_w6]
  refine z_ret (v := none) dX7_refuseAlike_21 trivial (Nat.add_zero _).symm (Nat.add_zero _).symm rfl ?_
  exact hQ
theorem qX7_readStop {l : Launch} {g h F : zH} {Q : zQt} {s a p k v : Int} (hg : zGd g) (hs : s = 4 ∨ s = 14) (hL : 0 ≤ h 2 1 ∧ h 2 1 ≤ 150) (hT : ∀ i, 0 ≤ i → i < h 2 1 → 0 ≤ h 3 i ∧ h 3 i ≤ 255) (a0 : 0 ≤ a) (a1 : a ≤ h 2 1) (h1 : ∀ k' v', kc (h 3) (h 2 1) a = -2 → Q none (SHL, g) (PH h s F (ke (h 3) (h 2 1) a) (ks (h 3) (h 2 1) a) k' v' 0)) (h0 : ∀ k' v', ¬ kc (h 3) (h 2 1) a = -2 → Q none (SHL, g) (PH h s F (ke (h 3) (h 2 1) a) (ks (h 3) (h 2 1) a) k' v' 1)) : zC l mX7_readStop [zr 2] (SHL, g) (PH h s F a p k v 0) Q := by
  refine z_method kX7_readStop.1 rfl (Nat.le_of_ble_eq_true rfl) (fun hok hh => ?_)
  refine z_aload_n dX7_readStop_0 rfl (by omega) ?_
  refine y_getz (k' := 6) fl_X7_27 rfl dX7_readStop_1 sh_2 (by decide) PH_r6 ?_
  refine z_if_ne (tgt := 28) dX7_readStop_4 (by decide) (fun q => False.elim (by omega)) (fun _ => ?_)
  refine z_aload_n dX7_readStop_7 rfl (by omega) ?_
  refine z_callV (T := mX7_nextToken) (As := []) kX7_nextToken ml_X7_31 ⟨by decide, by decide⟩ dX7_readStop_8 rfl rfl (Nat.le_of_ble_eq_true rfl) sh_2 ⟨by decide, rfl⟩ (Nat.le_refl _) (Nat.le_refl _) (qX7_nextToken hg hs hL hT (by omega) (by omega) (fun k' v' hkv => ?_))
  refine z_aload_n dX7_readStop_11 rfl (by omega) ?_
  refine z_aload_n dX7_readStop_12 rfl (by omega) ?_
  refine y_geti (k' := 4) fl_X7_34 rfl dX7_readStop_13 sh_2 (by decide) PH_r4 ?_
  refine z_iconst dX7_readStop_16 ⟨by decide, by decide⟩ ?_
  refine z_icmp_eq (tgt := 24) dX7_readStop_17 (by decide) (fun c17 => ?_) (fun c17 => ?_)
  ·
    refine z_iconst dX7_readStop_24 ⟨by decide, by decide⟩ ?_
    refine y_putz (k' := 6) fl_X7_27 rfl dX7_readStop_25 sh_2 (by decide) (by omega) ?_
    rw [PH_w6]
    refine z_ret (v := none) dX7_readStop_28 trivial (Nat.add_zero _).symm (Nat.add_zero _).symm rfl ?_
    unfold KV at hkv
    first
      | exact h1 _ _ (by omega)
      | exact h0 _ _ (by omega)
  ·
    refine z_iconst dX7_readStop_20 ⟨by decide, by decide⟩ ?_
    refine z_goto (tgt := 25) dX7_readStop_21 (by decide) ?_
    refine y_putz (k' := 6) fl_X7_27 rfl dX7_readStop_25 sh_2 (by decide) (by omega) ?_
    rw [PH_w6]
    refine z_ret (v := none) dX7_readStop_28 trivial (Nat.add_zero _).symm (Nat.add_zero _).symm rfl ?_
    unfold KV at hkv
    first
      | exact h1 _ _ (by omega)
      | exact h0 _ _ (by omega)
theorem qX7_readStop_f {l : Launch} {g h F : zH} {Q : zQt} {s a p k v : Int} (hg : zGd g) (hs : s = 4 ∨ s = 14) (hQ : Q none (SHL, g) (PH h s F a p k v 1)) : zC l mX7_readStop [zr 2] (SHL, g) (PH h s F a p k v 1) Q := by
  refine z_method kX7_readStop.1 rfl (Nat.le_of_ble_eq_true rfl) (fun hok hh => ?_)
  refine z_aload_n dX7_readStop_0 rfl (by omega) ?_
  refine y_getz (k' := 6) fl_X7_27 rfl dX7_readStop_1 sh_2 (by decide) PH_r6 ?_
  refine z_if_ne (tgt := 28) dX7_readStop_4 (by decide) (fun _ => ?_) (fun q => False.elim (by omega))
  refine z_ret (v := none) dX7_readStop_28 trivial (Nat.add_zero _).symm (Nat.add_zero _).symm rfl ?_
  exact hQ
