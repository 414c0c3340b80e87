/-! What the reference holds: its counts, its bounds. -/
def pw (n : Int) : Int := 2 ^ n.toNat
/-- the bounds of one Now of the reference: at array A, from place o on -/
def NB (h : zH) (A o : Int) : Prop :=
  (∀ d, 0 ≤ d → d < h 240 3 → (0 ≤ h A (o + 4 * d) ∧ h A (o + 4 * d) < h 240 0) ∧ (0 ≤ h A (o + 4 * d + 1) ∧ h A (o + 4 * d + 1) ≤ 99) ∧ (0 ≤ h A (o + 4 * d + 2) ∧ h A (o + 4 * d + 2) ≤ 9999) ∧ (0 ≤ h A (o + 4 * d + 3) ∧ h A (o + 4 * d + 3) ≤ 999)) ∧
  (∀ c, 0 ≤ c → c < h 240 5 → 0 ≤ h A (o + 24 + c) ∧ h A (o + 24 + c) ≤ 9) ∧ (0 ≤ h A (o + 28) ∧ h A (o + 28) < pw (h 240 3))
def MBc (h : zH) : Prop := (2 ≤ h 240 0 ∧ h 240 0 ≤ 8) ∧ (0 ≤ h 240 1 ∧ h 240 1 ≤ 9) ∧ (0 ≤ h 240 3 ∧ h 240 3 ≤ 6) ∧ (0 ≤ h 240 5 ∧ h 240 5 ≤ 4) ∧ (0 ≤ h 240 9 ∧ h 240 9 ≤ 10) ∧ (0 ≤ h 240 13 ∧ h 240 13 ≤ 4) ∧ (0 ≤ h 240 16 ∧ h 240 16 ≤ 150) ∧ (0 ≤ h 240 14 ∧ h 240 14 ≤ 2000000000)
def MBp (h : zH) : Prop := ∀ p, 0 ≤ p → p < h 240 1 → (0 ≤ h 241 (3 * p) ∧ h 241 (3 * p) < h 240 0) ∧ (0 ≤ h 241 (3 * p + 1) ∧ h 241 (3 * p + 1) < h 240 0) ∧ (0 ≤ h 241 (3 * p + 2) ∧ h 241 (3 * p + 2) ≤ 9)
def MBd (h : zH) : Prop := ∀ d, 0 ≤ d → d < h 240 3 → (1 ≤ h 242 (3 * d) ∧ h 242 (3 * d) ≤ 40) ∧ (0 ≤ h 242 (3 * d + 1) ∧ h 242 (3 * d + 1) ≤ 5) ∧ (0 ≤ h 242 (3 * d + 2) ∧ h 242 (3 * d + 2) < pw (h 240 3))
def MBn (h : zH) : Prop := ∀ c, 0 ≤ c → c < h 240 5 → 1 ≤ h 243 c ∧ h 243 c ≤ 9
def MBi (h : zH) : Prop := ∀ j, 0 ≤ j → j < 2 → (h 247 j = 0 ∨ h 247 j = 1) ∧ (h 247 j = 1 → NB h 246 (320 * j) ∧ (0 ≤ h 246 (320 * j + 319) ∧ h 246 (320 * j + 319) ≤ 10) ∧ ∀ i, 0 ≤ i → i < h 246 (320 * j + 319) → NB h 246 (320 * j + 29 + 29 * i))
def MBh (h : zH) : Prop := ∀ i, 0 ≤ i → i < h 240 13 → (0 ≤ h 248 (2 * i) ∧ h 248 (2 * i) < h 240 1) ∧ (h 248 (2 * i + 1) = 0 ∨ h 248 (2 * i + 1) = 1)
def MBt (h : zH) : Prop := ∀ i, 0 ≤ i → i < h 240 16 → 0 ≤ h 249 i ∧ h 249 i ≤ 255
/-- all bounds of the reference -/
def MB (h : zH) : Prop := MBc h ∧ MBp h ∧ MBd h ∧ MBn h ∧ NB h 244 0 ∧ (∀ i, 0 ≤ i → i < h 240 9 → NB h 245 (29 * i)) ∧ MBi h ∧ MBh h ∧ MBt h
theorem nb0 {h : zH} (hm : NB h 244 0) {d : Int} (h0 : 0 ≤ d) (h1 : d < h 240 3) : (0 ≤ h 244 (4 * d) ∧ h 244 (4 * d) < h 240 0) ∧ (0 ≤ h 244 (4 * d + 1) ∧ h 244 (4 * d + 1) ≤ 99) ∧ (0 ≤ h 244 (4 * d + 2) ∧ h 244 (4 * d + 2) ≤ 9999) ∧ (0 ≤ h 244 (4 * d + 3) ∧ h 244 (4 * d + 3) ≤ 999) := by
  have := hm.1 d h0 h1
  simpa using this
theorem pw_le {n : Int} (h : n ≤ 6) : pw n ≤ 64 := by
  unfold pw
  have : n.toNat ≤ 6 := by omega
  have := Nat.pow_le_pow_right (show 0 < 2 by decide) this
  exact_mod_cast this
theorem pw_pos (n : Int) : 1 ≤ pw n := by
  unfold pw
  have := Nat.one_le_two_pow (n := n.toNat)
  exact_mod_cast this
/-! Contracts of the reference's small methods. -/
theorem qX10_isDirector {l : Launch} {g h : zH} {Q : zQt} (hg : zGd g) (hm : MB h) {d : Int}  (h1 : (0 ≤ d ∧ d < h 240 3) → Q (some (zi 1)) (SHL, g) h) (h0 : ¬ (0 ≤ d ∧ d < h 240 3) → Q (some (zi 0)) (SHL, g) h) : zC l mX10_isDirector [zr 240, zi d] (SHL, g) h Q := by
  refine z_method kX10_isDirector.1 rfl (Nat.le_of_ble_eq_true rfl) (fun hok hh => ?_)
  obtain ⟨m0, m1, m2, m3, m4, m5, m6, m7⟩ := hm.1
  refine z_iload_n dX10_isDirector_0 rfl ?_
  refine z_i2l dX10_isDirector_1 ?_
  refine z_lconst0 dX10_isDirector_2 ?_
  refine z_aload_n dX10_isDirector_3 rfl (by omega) ?_
  refine y_geti (k' := 3) fl_X10_66 rfl dX10_isDirector_4 sh_240 (by decide) rfl ?_
  refine z_iconst dX10_isDirector_7 ⟨by decide, by decide⟩ ?_
  refine y_isub dX10_isDirector_8 (by omega) (by omega) ?_
  refine z_i2l dX10_isDirector_9 ?_
  refine z_callS (T := mX10_in) (As := [_, _, _]) kX10_in ml_X10_69 ⟨by decide, by decide⟩ dX10_isDirector_10 rfl rfl (Nat.le_of_ble_eq_true rfl) (Nat.le_refl _) (Nat.le_refl _) (qX10_in (fun b10 => ?_) (fun b10 => ?_))
  ·
    refine z_ret (v := some (zi _)) dX10_isDirector_13 (Or.inr rfl) (Nat.add_zero _).symm (Nat.add_zero _).symm rfl ?_
    first | exact h1 (by omega) | exact h0 (by omega)
  ·
    refine z_ret (v := some (zi _)) dX10_isDirector_13 (Or.inl rfl) (Nat.add_zero _).symm (Nat.add_zero _).symm rfl ?_
    first | exact h1 (by omega) | exact h0 (by omega)
theorem qX10_isPath {l : Launch} {g h : zH} {Q : zQt} (hg : zGd g) (hm : MB h) {d : Int}  (h1 : (0 ≤ d ∧ d < h 240 1) → Q (some (zi 1)) (SHL, g) h) (h0 : ¬ (0 ≤ d ∧ d < h 240 1) → Q (some (zi 0)) (SHL, g) h) : zC l mX10_isPath [zr 240, zi d] (SHL, g) h Q := by
  refine z_method kX10_isPath.1 rfl (Nat.le_of_ble_eq_true rfl) (fun hok hh => ?_)
  obtain ⟨m0, m1, m2, m3, m4, m5, m6, m7⟩ := hm.1
  refine z_iload_n dX10_isPath_0 rfl ?_
  refine z_i2l dX10_isPath_1 ?_
  refine z_lconst0 dX10_isPath_2 ?_
  refine z_aload_n dX10_isPath_3 rfl (by omega) ?_
  refine y_geti (k' := 1) fl_X10_73 rfl dX10_isPath_4 sh_240 (by decide) rfl ?_
  refine z_iconst dX10_isPath_7 ⟨by decide, by decide⟩ ?_
  refine y_isub dX10_isPath_8 (by omega) (by omega) ?_
  refine z_i2l dX10_isPath_9 ?_
  refine z_callS (T := mX10_in) (As := [_, _, _]) kX10_in ml_X10_69 ⟨by decide, by decide⟩ dX10_isPath_10 rfl rfl (Nat.le_of_ble_eq_true rfl) (Nat.le_refl _) (Nat.le_refl _) (qX10_in (fun b10 => ?_) (fun b10 => ?_))
  ·
    refine z_ret (v := some (zi _)) dX10_isPath_13 (Or.inr rfl) (Nat.add_zero _).symm (Nat.add_zero _).symm rfl ?_
    first | exact h1 (by omega) | exact h0 (by omega)
  ·
    refine z_ret (v := some (zi _)) dX10_isPath_13 (Or.inl rfl) (Nat.add_zero _).symm (Nat.add_zero _).symm rfl ?_
    first | exact h1 (by omega) | exact h0 (by omega)
theorem qX10_isRoom {l : Launch} {g h : zH} {Q : zQt} (hg : zGd g) (hm : MB h) {d : Int}  (h1 : (0 ≤ d ∧ d < h 240 0) → Q (some (zi 1)) (SHL, g) h) (h0 : ¬ (0 ≤ d ∧ d < h 240 0) → Q (some (zi 0)) (SHL, g) h) : zC l mX10_isRoom [zr 240, zi d] (SHL, g) h Q := by
  refine z_method kX10_isRoom.1 rfl (Nat.le_of_ble_eq_true rfl) (fun hok hh => ?_)
  obtain ⟨m0, m1, m2, m3, m4, m5, m6, m7⟩ := hm.1
  refine z_iload_n dX10_isRoom_0 rfl ?_
  refine z_i2l dX10_isRoom_1 ?_
  refine z_lconst0 dX10_isRoom_2 ?_
  refine z_aload_n dX10_isRoom_3 rfl (by omega) ?_
  refine y_geti (k' := 0) fl_X10_7 rfl dX10_isRoom_4 sh_240 (by decide) rfl ?_
  refine z_iconst dX10_isRoom_7 ⟨by decide, by decide⟩ ?_
  refine y_isub dX10_isRoom_8 (by omega) (by omega) ?_
  refine z_i2l dX10_isRoom_9 ?_
  refine z_callS (T := mX10_in) (As := [_, _, _]) kX10_in ml_X10_69 ⟨by decide, by decide⟩ dX10_isRoom_10 rfl rfl (Nat.le_of_ble_eq_true rfl) (Nat.le_refl _) (Nat.le_refl _) (qX10_in (fun b10 => ?_) (fun b10 => ?_))
  ·
    refine z_ret (v := some (zi _)) dX10_isRoom_13 (Or.inr rfl) (Nat.add_zero _).symm (Nat.add_zero _).symm rfl ?_
    first | exact h1 (by omega) | exact h0 (by omega)
  ·
    refine z_ret (v := some (zi _)) dX10_isRoom_13 (Or.inl rfl) (Nat.add_zero _).symm (Nat.add_zero _).symm rfl ?_
    first | exact h1 (by omega) | exact h0 (by omega)
theorem qX10_of {l : Launch} {g h : zH} {Q : zQt} (hg : zGd g) {d k v : Int} (g0 : 0 ≤ d) (g1 : d < 6) (g2 : 0 ≤ k) (g3 : k < 4) (hv : h 244 (4 * d + k) = v) (hQ : Q (some (zi v)) (SHL, g) h) : zC l mX10_of [zr 240, zi d, zi k] (SHL, g) h Q := by
  refine z_method kX10_of.1 rfl (Nat.le_of_ble_eq_true rfl) (fun hok hh => ?_)
  refine z_aload_n dX10_of_0 rfl (by omega) ?_
  refine y_geta (k' := 7) fl_X10_23 rfl dX10_of_1 sh_240 (by decide) (gf_240_7 hg) ?_
  refine z_iconst dX10_of_4 ⟨by decide, by decide⟩ ?_
  refine z_iload_n dX10_of_5 rfl ?_
  refine y_imul dX10_of_6 (by omega) (by omega) ?_
  refine z_iload_n dX10_of_7 rfl ?_
  refine y_iadd dX10_of_8 (by omega) (by omega) ?_
  refine z_iaload dX10_of_9 sh_244 (by omega) (by omega) hv ?_
  refine z_ret (v := some (zi _)) dX10_of_10 trivial (Nat.add_zero _).symm (Nat.add_zero _).symm rfl ?_
  exact hQ
theorem qX10_strength {l : Launch} {g h : zH} {Q : zQt} (hg : zGd g) {d : Int} (g0 : 0 ≤ d) (g1 : d < 6) (hQ : Q (some (zi (h 242 (3 * d)))) (SHL, g) h) : zC l mX10_strength [zr 240, zi d] (SHL, g) h Q := by
  refine z_method kX10_strength.1 rfl (Nat.le_of_ble_eq_true rfl) (fun hok hh => ?_)
  refine z_aload_n dX10_strength_0 rfl (by omega) ?_
  refine y_geta (k' := 4) fl_X10_17 rfl dX10_strength_1 sh_240 (by decide) (gf_240_4 hg) ?_
  refine z_iconst dX10_strength_4 ⟨by decide, by decide⟩ ?_
  refine z_iload_n dX10_strength_5 rfl ?_
  refine y_imul dX10_strength_6 (by omega) (by omega) ?_
  refine z_iaload dX10_strength_7 sh_242 (by omega) (by omega) rfl ?_
  refine z_ret (v := some (zi _)) dX10_strength_8 trivial (Nat.add_zero _).symm (Nat.add_zero _).symm rfl ?_
  exact hQ
theorem qX10_gravity {l : Launch} {g h : zH} {Q : zQt} (hg : zGd g) {d : Int} (g0 : 0 ≤ d) (g1 : d < 6) (hQ : Q (some (zi (h 242 (3 * d + 1)))) (SHL, g) h) : zC l mX10_gravity [zr 240, zi d] (SHL, g) h Q := by
  refine z_method kX10_gravity.1 rfl (Nat.le_of_ble_eq_true rfl) (fun hok hh => ?_)
  refine z_aload_n dX10_gravity_0 rfl (by omega) ?_
  refine y_geta (k' := 4) fl_X10_17 rfl dX10_gravity_1 sh_240 (by decide) (gf_240_4 hg) ?_
  refine z_iconst dX10_gravity_4 ⟨by decide, by decide⟩ ?_
  refine z_iload_n dX10_gravity_5 rfl ?_
  refine y_imul dX10_gravity_6 (by omega) (by omega) ?_
  refine z_iconst dX10_gravity_7 ⟨by decide, by decide⟩ ?_
  refine y_iadd dX10_gravity_8 (by omega) (by omega) ?_
  refine z_iaload dX10_gravity_9 sh_242 (by omega) (by omega) rfl ?_
  refine z_ret (v := some (zi _)) dX10_gravity_10 trivial (Nat.add_zero _).symm (Nat.add_zero _).symm rfl ?_
  exact hQ
theorem qX10_friends {l : Launch} {g h : zH} {Q : zQt} (hg : zGd g) {d : Int} (g0 : 0 ≤ d) (g1 : d < 6) (hQ : Q (some (zi (h 242 (3 * d + 2)))) (SHL, g) h) : zC l mX10_friends [zr 240, zi d] (SHL, g) h Q := by
  refine z_method kX10_friends.1 rfl (Nat.le_of_ble_eq_true rfl) (fun hok hh => ?_)
  refine z_aload_n dX10_friends_0 rfl (by omega) ?_
  refine y_geta (k' := 4) fl_X10_17 rfl dX10_friends_1 sh_240 (by decide) (gf_240_4 hg) ?_
  refine z_iconst dX10_friends_4 ⟨by decide, by decide⟩ ?_
  refine z_iload_n dX10_friends_5 rfl ?_
  refine y_imul dX10_friends_6 (by omega) (by omega) ?_
  refine z_iconst dX10_friends_7 ⟨by decide, by decide⟩ ?_
  refine y_iadd dX10_friends_8 (by omega) (by omega) ?_
  refine z_iaload dX10_friends_9 sh_242 (by omega) (by omega) rfl ?_
  refine z_ret (v := some (zi _)) dX10_friends_10 trivial (Nat.add_zero _).symm (Nat.add_zero _).symm rfl ?_
  exact hQ
theorem mulb {a b A B : Int} (h0 : 0 ≤ a) (h1 : a ≤ A) (h2 : 0 ≤ b) (h3 : b ≤ B) : 0 ≤ a * b ∧ a * b ≤ A * B := ⟨Int.mul_nonneg h0 h2, Int.mul_le_mul h1 h3 h2 (by omega)⟩
/-- may he go that path -/
abbrev mayM (h : zH) (d p : Int) : Prop := h 244 (4 * d + 1) + h 241 (3 * p + 2) ≤ h 242 (3 * d)
theorem qX10_may {l : Launch} {g h : zH} {Q : zQt} (hg : zGd g) (hm : MB h) {d p : Int} (g0 : 0 ≤ d) (g1 : d < h 240 3) (g2 : 0 ≤ p) (g3 : p < h 240 1)  (h1 : (mayM h d p) → Q (some (zi 1)) (SHL, g) h) (h0 : ¬ (mayM h d p) → Q (some (zi 0)) (SHL, g) h) : zC l mX10_may [zr 240, zi d, zi p] (SHL, g) h Q := by
  refine z_method kX10_may.1 rfl (Nat.le_of_ble_eq_true rfl) (fun hok hh => ?_)
  obtain ⟨m0, m1, m2, m3, m4, m5, m6, m7⟩ := hm.1
  have f1 := (nb0 hm.2.2.2.2.1 g0 g1).2.1
  have f2 := (hm.2.1 p g2 g3).2.2
  refine z_aload_n dX10_may_0 rfl (by omega) ?_
  refine z_iload_n dX10_may_1 rfl ?_
  refine z_iconst dX10_may_2 ⟨by decide, by decide⟩ ?_
  refine z_callV (T := mX10_of) (As := [_, _]) kX10_of ml_X10_76 ⟨by decide, by decide⟩ dX10_may_3 rfl rfl (Nat.le_of_ble_eq_true rfl) sh_240 ⟨by decide, rfl⟩ (Nat.le_refl _) (Nat.le_refl _) (qX10_of hg (by omega) (by omega) (by omega) (by omega) rfl ?_)
  refine z_aload_n dX10_may_6 rfl (by omega) ?_
  refine y_geta (k' := 2) fl_X10_13 rfl dX10_may_7 sh_240 (by decide) (gf_240_2 hg) ?_
  refine z_iconst dX10_may_10 ⟨by decide, by decide⟩ ?_
  refine z_iload_n dX10_may_11 rfl ?_
  refine y_imul dX10_may_12 (by omega) (by omega) ?_
  refine z_iconst dX10_may_13 ⟨by decide, by decide⟩ ?_
  refine y_iadd dX10_may_14 (by omega) (by omega) ?_
  refine z_iaload dX10_may_15 sh_241 (by omega) (by omega) rfl ?_
  refine y_iadd dX10_may_16 (by omega) (by omega) ?_
  refine z_aload_n dX10_may_17 rfl (by omega) ?_
  refine z_iload_n dX10_may_18 rfl ?_
  refine z_callV (T := mX10_strength) (As := [_]) kX10_strength ml_X10_160 ⟨by decide, by decide⟩ dX10_may_19 rfl rfl (Nat.le_of_ble_eq_true rfl) sh_240 ⟨by decide, rfl⟩ (Nat.le_refl _) (Nat.le_refl _) (qX10_strength hg (by omega) (by omega) ?_)
  refine z_icmp_gt (tgt := 29) dX10_may_22 (by decide) (fun c22 => ?_) (fun c22 => ?_)
  ·
    refine z_iconst dX10_may_29 ⟨by decide, by decide⟩ ?_
    refine z_ret (v := some (zi _)) dX10_may_30 (Or.inl rfl) (Nat.add_zero _).symm (Nat.add_zero _).symm rfl ?_
    first | exact h1 (by unfold mayM; omega) | exact h0 (by unfold mayM; omega)
  ·
    refine z_iconst dX10_may_25 ⟨by decide, by decide⟩ ?_
    refine z_goto (tgt := 30) dX10_may_26 (by decide) ?_
    refine z_ret (v := some (zi _)) dX10_may_30 (Or.inr rfl) (Nat.add_zero _).symm (Nat.add_zero _).symm rfl ?_
    first | exact h1 (by unfold mayM; omega) | exact h0 (by unfold mayM; omega)
/-- the other end of a path, or none -/
def othM (h : zH) (p r : Int) : Int := if h 241 (3 * p) = r then h 241 (3 * p + 1) else if h 241 (3 * p + 1) = r then h 241 (3 * p) else -9
theorem qX10_other {l : Launch} {g h : zH} {Q : zQt} (hg : zGd g) {p r : Int} (g2 : 0 ≤ p) (g3 : p < 9) (hQ : Q (some (zi (othM h p r))) (SHL, g) h) : zC l mX10_other [zr 240, zi p, zi r] (SHL, g) h Q := by
  refine z_method kX10_other.1 rfl (Nat.le_of_ble_eq_true rfl) (fun hok hh => ?_)
  refine z_aload_n dX10_other_0 rfl (by omega) ?_
  refine y_geta (k' := 2) fl_X10_13 rfl dX10_other_1 sh_240 (by decide) (gf_240_2 hg) ?_
  refine z_iconst dX10_other_4 ⟨by decide, by decide⟩ ?_
  refine z_iload_n dX10_other_5 rfl ?_
  refine y_imul dX10_other_6 (by omega) (by omega) ?_
  refine z_iaload dX10_other_7 sh_241 (by omega) (by omega) rfl ?_
  refine z_iload_n dX10_other_8 rfl ?_
  refine z_icmp_ne (tgt := 25) dX10_other_9 (by decide) (fun c9 => ?_) (fun c9 => ?_)
  ·
    refine z_aload_n dX10_other_25 rfl (by omega) ?_
    refine y_geta (k' := 2) fl_X10_13 rfl dX10_other_26 sh_240 (by decide) (gf_240_2 hg) ?_
    refine z_iconst dX10_other_29 ⟨by decide, by decide⟩ ?_
    refine z_iload_n dX10_other_30 rfl ?_
    refine y_imul dX10_other_31 (by omega) (by omega) ?_
    refine z_iconst dX10_other_32 ⟨by decide, by decide⟩ ?_
    refine y_iadd dX10_other_33 (by omega) (by omega) ?_
    refine z_iaload dX10_other_34 sh_241 (by omega) (by omega) rfl ?_
    refine z_iload_n dX10_other_35 rfl ?_
    refine z_icmp_ne (tgt := 50) dX10_other_36 (by decide) (fun c36 => ?_) (fun c36 => ?_)
    ·
      refine z_bipush dX10_other_50 ⟨by decide, by decide⟩ ?_
      refine z_ret (v := some (zi _)) dX10_other_52 trivial (Nat.add_zero _).symm (Nat.add_zero _).symm rfl ?_
      first
        | (rw [show othM h p r = h 241 (3 * p + 1) by unfold othM; rw [if_pos (by omega)]] at hQ; exact hQ)
        | (rw [show othM h p r = h 241 (3 * p) by unfold othM; rw [if_neg (by omega), if_pos (by omega)]] at hQ; exact hQ)
        | (rw [show othM h p r = -9 by unfold othM; rw [if_neg (by omega), if_neg (by omega)]] at hQ; exact hQ)
    ·
      refine z_aload_n dX10_other_39 rfl (by omega) ?_
      refine y_geta (k' := 2) fl_X10_13 rfl dX10_other_40 sh_240 (by decide) (gf_240_2 hg) ?_
      refine z_iconst dX10_other_43 ⟨by decide, by decide⟩ ?_
      refine z_iload_n dX10_other_44 rfl ?_
      refine y_imul dX10_other_45 (by omega) (by omega) ?_
      refine z_iaload dX10_other_46 sh_241 (by omega) (by omega) rfl ?_
      refine z_goto (tgt := 52) dX10_other_47 (by decide) ?_
      refine z_ret (v := some (zi _)) dX10_other_52 trivial (Nat.add_zero _).symm (Nat.add_zero _).symm rfl ?_
      first
        | (rw [show othM h p r = h 241 (3 * p + 1) by unfold othM; rw [if_pos (by omega)]] at hQ; exact hQ)
        | (rw [show othM h p r = h 241 (3 * p) by unfold othM; rw [if_neg (by omega), if_pos (by omega)]] at hQ; exact hQ)
        | (rw [show othM h p r = -9 by unfold othM; rw [if_neg (by omega), if_neg (by omega)]] at hQ; exact hQ)
  ·
    refine z_aload_n dX10_other_12 rfl (by omega) ?_
    refine y_geta (k' := 2) fl_X10_13 rfl dX10_other_13 sh_240 (by decide) (gf_240_2 hg) ?_
    refine z_iconst dX10_other_16 ⟨by decide, by decide⟩ ?_
    refine z_iload_n dX10_other_17 rfl ?_
    refine y_imul dX10_other_18 (by omega) (by omega) ?_
    refine z_iconst dX10_other_19 ⟨by decide, by decide⟩ ?_
    refine y_iadd dX10_other_20 (by omega) (by omega) ?_
    refine z_iaload dX10_other_21 sh_241 (by omega) (by omega) rfl ?_
    refine z_goto (tgt := 52) dX10_other_22 (by decide) ?_
    refine z_ret (v := some (zi _)) dX10_other_52 trivial (Nat.add_zero _).symm (Nat.add_zero _).symm rfl ?_
    first
      | (rw [show othM h p r = h 241 (3 * p + 1) by unfold othM; rw [if_pos (by omega)]] at hQ; exact hQ)
      | (rw [show othM h p r = h 241 (3 * p) by unfold othM; rw [if_neg (by omega), if_pos (by omega)]] at hQ; exact hQ)
      | (rw [show othM h p r = -9 by unfold othM; rw [if_neg (by omega), if_neg (by omega)]] at hQ; exact hQ)
def fitM (h : zH) (a b : Int) : Prop := h 244 (4 * b + 1) ≤ h 242 (3 * a) ∧ h 244 (4 * a + 1) ≤ h 242 (3 * b)
theorem qX10_fit {l : Launch} {g h : zH} {Q : zQt} (hg : zGd g) {a b : Int} (g0 : 0 ≤ a) (g1 : a < 6) (g2 : 0 ≤ b) (g3 : b < 6) (h1 : (fitM h a b) → Q (some (zi 1)) (SHL, g) h) (h0 : ¬ (fitM h a b) → Q (some (zi 0)) (SHL, g) h) : zC l mX10_fit [zr 240, zi a, zi b] (SHL, g) h Q := by
  refine z_method kX10_fit.1 rfl (Nat.le_of_ble_eq_true rfl) (fun hok hh => ?_)
  refine z_aload_n dX10_fit_0 rfl (by omega) ?_
  refine z_iload_n dX10_fit_1 rfl ?_
  refine z_callV (T := mX10_strength) (As := [_]) kX10_strength ml_X10_160 ⟨by decide, by decide⟩ dX10_fit_2 rfl rfl (Nat.le_of_ble_eq_true rfl) sh_240 ⟨by decide, rfl⟩ (Nat.le_refl _) (Nat.le_refl _) (qX10_strength hg (by omega) (by omega) ?_)
  refine z_aload_n dX10_fit_5 rfl (by omega) ?_
  refine z_iload_n dX10_fit_6 rfl ?_
  refine z_iconst dX10_fit_7 ⟨by decide, by decide⟩ ?_
  refine z_callV (T := mX10_of) (As := [_, _]) kX10_of ml_X10_76 ⟨by decide, by decide⟩ dX10_fit_8 rfl rfl (Nat.le_of_ble_eq_true rfl) sh_240 ⟨by decide, rfl⟩ (Nat.le_refl _) (Nat.le_refl _) (qX10_of hg (by omega) (by omega) (by omega) (by omega) rfl ?_)
  refine z_icmp_lt (tgt := 32) dX10_fit_11 (by decide) (fun c11 => ?_) (fun c11 => ?_)
  ·
    refine z_iconst dX10_fit_32 ⟨by decide, by decide⟩ ?_
    refine z_ret (v := some (zi _)) dX10_fit_33 (Or.inl rfl) (Nat.add_zero _).symm (Nat.add_zero _).symm rfl ?_
    first | exact h1 (by unfold fitM; omega) | exact h0 (by unfold fitM; omega)
  ·
    refine z_aload_n dX10_fit_14 rfl (by omega) ?_
    refine z_iload_n dX10_fit_15 rfl ?_
    refine z_callV (T := mX10_strength) (As := [_]) kX10_strength ml_X10_160 ⟨by decide, by decide⟩ dX10_fit_16 rfl rfl (Nat.le_of_ble_eq_true rfl) sh_240 ⟨by decide, rfl⟩ (Nat.le_refl _) (Nat.le_refl _) (qX10_strength hg (by omega) (by omega) ?_)
    refine z_aload_n dX10_fit_19 rfl (by omega) ?_
    refine z_iload_n dX10_fit_20 rfl ?_
    refine z_iconst dX10_fit_21 ⟨by decide, by decide⟩ ?_
    refine z_callV (T := mX10_of) (As := [_, _]) kX10_of ml_X10_76 ⟨by decide, by decide⟩ dX10_fit_22 rfl rfl (Nat.le_of_ble_eq_true rfl) sh_240 ⟨by decide, rfl⟩ (Nat.le_refl _) (Nat.le_refl _) (qX10_of hg (by omega) (by omega) (by omega) (by omega) rfl ?_)
    refine z_icmp_lt (tgt := 32) dX10_fit_25 (by decide) (fun c25 => ?_) (fun c25 => ?_)
    ·
      refine z_iconst dX10_fit_32 ⟨by decide, by decide⟩ ?_
      refine z_ret (v := some (zi _)) dX10_fit_33 (Or.inl rfl) (Nat.add_zero _).symm (Nat.add_zero _).symm rfl ?_
      first | exact h1 (by unfold fitM; omega) | exact h0 (by unfold fitM; omega)
    ·
      refine z_iconst dX10_fit_28 ⟨by decide, by decide⟩ ?_
      refine z_goto (tgt := 33) dX10_fit_29 (by decide) ?_
      refine z_ret (v := some (zi _)) dX10_fit_33 (Or.inr rfl) (Nat.add_zero _).symm (Nat.add_zero _).symm rfl ?_
      first | exact h1 (by unfold fitM; omega) | exact h0 (by unfold fitM; omega)
/-- a sum over the first n -/
def sumN (f : Int → Int) : Nat → Int
  | 0 => 0
  | n + 1 => sumN f n + f n
theorem sumN_r {f : Int → Int} {B : Int} {N : Nat} (hf : ∀ d : Int, 0 ≤ d → d < N → 0 ≤ f d ∧ f d ≤ B) : ∀ n : Nat, n ≤ N → 0 ≤ sumN f n ∧ sumN f n ≤ n * B := by
  intro n
  induction n with
  | zero => intro _; simp [sumN]
  | succ n ih =>
    intro hn
    have h1 := ih (by omega)
    have h2 := hf n (by omega) (by omega)
    have h3 : ((n + 1 : Nat) : Int) * B = n * B + B := by push_cast; rw [Int.add_mul]; omega
    show 0 ≤ sumN f n + f n ∧ sumN f n + f n ≤ _
    omega
theorem lpX10_stones {l : Launch} {g h : zH} {Q : zQt} (hg : zGd g) (m2 : 0 ≤ h 240 3 ∧ h 240 3 ≤ 6) (hs : ∀ d, 0 ≤ d → d < h 240 3 → 0 ≤ h 244 (4 * d + 1) ∧ h 244 (4 * d + 1) ≤ 99) (hQ : Q (some (zi (sumN (fun d => h 244 (4 * d + 1)) (h 240 3).toNat))) (SHL, g) h) : ∀ (n i : Nat), i + n = (h 240 3).toNat → zW zX0 l mX10_stones ((SHL, g).1.length + zmc mX10_stones) (ztot (SHL, g) + zms mX10_stones) Q 4 [some (zr 240), some (zi (sumN (fun d => h 244 (4 * d + 1)) i)), some (zi (i : Int))] [] (SHL, g) h := by
  intro n
  induction n with
  | zero =>
    intro i hi
    refine z_iload_n dX10_stones_4 rfl ?_
    refine z_aload_n dX10_stones_5 rfl (by omega) ?_
    refine y_geti (k' := 3) fl_X10_66 rfl dX10_stones_6 sh_240 (by decide) rfl ?_
    refine z_icmp_ge (tgt := 27) dX10_stones_9 (by decide) (fun _ => ?_) (fun q => False.elim (by omega))
    refine z_iload_n dX10_stones_27 rfl ?_
    refine z_ret (v := some (zi _)) dX10_stones_28 trivial (Nat.add_zero _).symm (Nat.add_zero _).symm rfl ?_
    rw [show i = (h 240 3).toNat by omega]
    exact hQ
  | succ n ih =>
    intro i hi
    have f1 := hs i (by omega) (by omega)
    have f2 := sumN_r (f := fun d => h 244 (4 * d + 1)) (B := 99) (N := (h 240 3).toNat) (fun d d0 d1 => hs d d0 (by omega)) i (by omega)
    refine z_iload_n dX10_stones_4 rfl ?_
    refine z_aload_n dX10_stones_5 rfl (by omega) ?_
    refine y_geti (k' := 3) fl_X10_66 rfl dX10_stones_6 sh_240 (by decide) rfl ?_
    refine z_icmp_ge (tgt := 27) dX10_stones_9 (by decide) (fun q => False.elim (by omega)) (fun _ => ?_)
    refine z_iload_n dX10_stones_12 rfl ?_
    refine z_aload_n dX10_stones_13 rfl (by omega) ?_
    refine z_iload_n dX10_stones_14 rfl ?_
    refine z_iconst dX10_stones_15 ⟨by decide, by decide⟩ ?_
    refine z_callV (T := mX10_of) (As := [_, _]) kX10_of ml_X10_76 ⟨by decide, by decide⟩ dX10_stones_16 rfl rfl (Nat.le_of_ble_eq_true rfl) sh_240 ⟨by decide, rfl⟩ (Nat.le_refl _) (Nat.le_refl _) (qX10_of hg (by omega) (by omega) (by omega) (by omega) rfl ?_)
    refine y_iadd dX10_stones_19 (by omega) (by omega) ?_
    refine z_istore_n dX10_stones_20 (by decide) rfl lss_3_1 ?_
    refine y_iinc dX10_stones_21 (by decide) rfl rfl (by omega) (by omega) lss_3_2 ?_
    refine z_goto (tgt := 4) dX10_stones_24 (by decide) ?_
    exact ih (i + 1) (by omega)

theorem qX10_stones {l : Launch} {g h : zH} {Q : zQt} (hg : zGd g) (m2 : 0 ≤ h 240 3 ∧ h 240 3 ≤ 6) (hs : ∀ d, 0 ≤ d → d < h 240 3 → 0 ≤ h 244 (4 * d + 1) ∧ h 244 (4 * d + 1) ≤ 99) (hQ : Q (some (zi (sumN (fun d => h 244 (4 * d + 1)) (h 240 3).toNat))) (SHL, g) h) : zC l mX10_stones [zr 240] (SHL, g) h Q := by
  refine z_method kX10_stones.1 rfl (Nat.le_of_ble_eq_true rfl) (fun hok hh => ?_)
  refine z_iconst dX10_stones_0 ⟨by decide, by decide⟩ ?_
  refine z_istore_n dX10_stones_1 (by decide) rfl lss_3_1 ?_
  refine z_iconst dX10_stones_2 ⟨by decide, by decide⟩ ?_
  refine z_istore_n dX10_stones_3 (by decide) rfl lss_3_2 ?_
  exact lpX10_stones hg m2 hs hQ _ 0 (Nat.zero_add _)
