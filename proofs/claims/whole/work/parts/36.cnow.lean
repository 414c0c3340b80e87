/-! The class: rows and nows are copied; the history. -/
theorem lpX9_copyRow {l : Launch} {g h : zH} {Q : zQt} {A B : Int} {k : Nat} (hg : zGd g) (As0 : zsh (SHL, g) A = some (100, k)) (Bs0 : zsh (SHL, g) B = some (100, k)) (hk : k < 100) (hA : 0 < A) (hB : 0 < B) (hne : A ≠ B) (K : zW zX0 l mX9_copyRow ((SHL, g).1.length + zmc mX9_copyRow) (ztot (SHL, g) + zms mX9_copyRow) Q 26 [some (zr A), some (zr B), some (zi ((k : Nat) : Int))] [] (SHL, g) (cpo h B 0 A 0 (k))) : ∀ (n i : Nat), i + n = k → zW zX0 l mX9_copyRow ((SHL, g).1.length + zmc mX9_copyRow) (ztot (SHL, g) + zms mX9_copyRow) Q 2 [some (zr A), some (zr B), some (zi (i : Int))] [] (SHL, g) (cpo h B 0 A 0 i) := by
  intro n
  induction n with
  | zero =>
    intro i hi 
    have e9 : i = k := by omega
    subst e9
    refine z_iload_n dX9_copyRow_2 rfl ?_
    refine z_aload_n dX9_copyRow_3 rfl (by omega) ?_
    refine z_alen dX9_copyRow_4 As0 (by omega) ?_
    refine z_icmp_ge (tgt := 26) dX9_copyRow_5 (by decide) (fun _ => ?_) (fun q => False.elim (by omega))
    exact K
  | succ n ih =>
    intro i hi 
    refine z_iload_n dX9_copyRow_2 rfl ?_
    refine z_aload_n dX9_copyRow_3 rfl (by omega) ?_
    refine z_alen dX9_copyRow_4 As0 (by omega) ?_
    refine z_icmp_ge (tgt := 26) dX9_copyRow_5 (by decide) (fun q => False.elim (by omega)) (fun _ => ?_)
    refine z_iload_n dX9_copyRow_8 rfl ?_
    refine z_aload_n dX9_copyRow_9 rfl (by omega) ?_
    refine z_alen dX9_copyRow_10 Bs0 (by omega) ?_
    refine z_icmp_ge (tgt := 26) dX9_copyRow_11 (by decide) (fun q => False.elim (by omega)) (fun _ => ?_)
    refine z_aload_n dX9_copyRow_14 rfl (by omega) ?_
    refine z_iload_n dX9_copyRow_15 rfl ?_
    refine z_aload_n dX9_copyRow_16 rfl (by omega) ?_
    refine z_iload_n dX9_copyRow_17 rfl ?_
    refine z_iaload dX9_copyRow_18 As0 (by omega) (by omega) (cpo_ne hne) ?_
    refine z_iastore dX9_copyRow_19 Bs0 (by omega) (by omega) ?_
    refine y_iinc dX9_copyRow_20 (by decide) rfl rfl (by omega) (by omega) lss_3_2 ?_
    refine z_goto (tgt := 2) dX9_copyRow_23 (by decide) ?_
    rw [cpo_succ (by omega) (by congr 1; omega)]
    exact ih (i + 1) (by omega)

theorem qX9_copyRow {l : Launch} {g h : zH} {Q : zQt} (hg : zGd g) {A B : Int} {k : Nat} (As0 : zsh (SHL, g) A = some (100, k)) (Bs0 : zsh (SHL, g) B = some (100, k)) (hk : k < 100) (hA : 0 < A) (hB : 0 < B) (hne : A ≠ B) (hQ : Q none (SHL, g) (cpo h B 0 A 0 k)) : zC l mX9_copyRow [zr A, zr B] (SHL, g) h Q := by
  refine z_method kX9_copyRow.1 rfl (Nat.le_of_ble_eq_true rfl) (fun hok hh => ?_)
  refine z_iconst dX9_copyRow_0 ⟨by decide, by decide⟩ ?_
  refine z_istore_n dX9_copyRow_1 (by decide) rfl lss_3_2 ?_
  have K := lpX9_copyRow (l := l) (h := h) (Q := Q) hg As0 Bs0 hk hA hB hne (by
    refine z_ret (v := none) dX9_copyRow_26 trivial (Nat.add_zero _).symm (Nat.add_zero _).symm rfl ?_
    exact hQ) _ 0 (Nat.zero_add _)
  rw [cpo_0] at K
  exact K
def CPN (h : zH) (n m : Int) : zH := zup (cpo (cpo (cpo (cpo (cpo h (n + 1) 0 (m + 1) 0 6) (n + 2) 0 (m + 2) 0 6) (n + 3) 0 (m + 3) 0 6) (n + 4) 0 (m + 4) 0 6) (n + 5) 0 (m + 5) 0 4) n 5 (h m 5)
/-- far enough from each other -/
def sep (n m : Int) : Prop := n + 6 ≤ m ∨ m + 6 ≤ n
theorem CPN_r1 {h : zH} {n m b : Int} (s : sep n m) (b0 : 0 ≤ b) (b1 : b < 6) : CPN h n m (n + 1) b = h (m + 1) b := by
  unfold sep at s
  unfold CPN
  refine ((zup_ne (fun q => by have := q.1; omega)).trans ((cpo_ne (by omega)).trans ((cpo_ne (by omega)).trans ((cpo_ne (by omega)).trans ((cpo_ne (by omega)).trans (cpo_in (by omega) (by omega))))))).trans ?_
  rw [show b - 0 + 0 = b by omega]
theorem CPN_r2 {h : zH} {n m b : Int} (s : sep n m) (b0 : 0 ≤ b) (b1 : b < 6) : CPN h n m (n + 2) b = h (m + 2) b := by
  unfold sep at s
  unfold CPN
  refine ((zup_ne (fun q => by have := q.1; omega)).trans ((cpo_ne (by omega)).trans ((cpo_ne (by omega)).trans ((cpo_ne (by omega)).trans (cpo_in (by omega) (by omega)))))).trans ?_
  rw [show b - 0 + 0 = b by omega]
  exact (cpo_ne (by omega))
theorem CPN_r3 {h : zH} {n m b : Int} (s : sep n m) (b0 : 0 ≤ b) (b1 : b < 6) : CPN h n m (n + 3) b = h (m + 3) b := by
  unfold sep at s
  unfold CPN
  refine ((zup_ne (fun q => by have := q.1; omega)).trans ((cpo_ne (by omega)).trans ((cpo_ne (by omega)).trans (cpo_in (by omega) (by omega))))).trans ?_
  rw [show b - 0 + 0 = b by omega]
  exact ((cpo_ne (by omega)).trans (cpo_ne (by omega)))
theorem CPN_r4 {h : zH} {n m b : Int} (s : sep n m) (b0 : 0 ≤ b) (b1 : b < 6) : CPN h n m (n + 4) b = h (m + 4) b := by
  unfold sep at s
  unfold CPN
  refine ((zup_ne (fun q => by have := q.1; omega)).trans ((cpo_ne (by omega)).trans (cpo_in (by omega) (by omega)))).trans ?_
  rw [show b - 0 + 0 = b by omega]
  exact ((cpo_ne (by omega)).trans ((cpo_ne (by omega)).trans (cpo_ne (by omega))))
theorem CPN_r5 {h : zH} {n m b : Int} (s : sep n m) (b0 : 0 ≤ b) (b1 : b < 4) : CPN h n m (n + 5) b = h (m + 5) b := by
  unfold sep at s
  unfold CPN
  refine ((zup_ne (fun q => by have := q.1; omega)).trans (cpo_in (by omega) (by omega))).trans ?_
  rw [show b - 0 + 0 = b by omega]
  exact ((cpo_ne (by omega)).trans ((cpo_ne (by omega)).trans ((cpo_ne (by omega)).trans (cpo_ne (by omega)))))
theorem CPN_l (h : zH) (n m : Int) : CPN h n m n 5 = h m 5 := zup_same _ _ _ _
theorem CPN_ne {h : zH} {n m a b : Int} (hn : a < n ∨ n + 5 < a) : CPN h n m a b = h a b := by
  unfold CPN
  exact ((zup_ne (fun q => by have := q.1; omega)).trans ((cpo_ne (by omega)).trans ((cpo_ne (by omega)).trans ((cpo_ne (by omega)).trans ((cpo_ne (by omega)).trans (cpo_ne (by omega)))))))
/-- a now as one row of 29, as the reference has it -/
def CV (h : zH) (n k : Int) : Int := if k < 24 then h (n + 1 + k % 4) (k / 4) else if k < 28 then h (n + 5) (k - 24) else h n 5
theorem CV_CPN {h : zH} {n m k : Int} (s : sep n m) (k0 : 0 ≤ k) (k1 : k ≤ 28) : CV (CPN h n m) n k = CV h m k := by
  unfold CV
  by_cases c : k < 24
  · rw [if_pos c, if_pos c]
    have e : k % 4 = 0 ∨ k % 4 = 1 ∨ k % 4 = 2 ∨ k % 4 = 3 := by omega
    rcases e with e | e | e | e
    · rw [e, show n + 1 + 0 = n + 1 by omega, show m + 1 + 0 = m + 1 by omega]; exact CPN_r1 s (by omega) (by omega)
    · rw [e, show n + 1 + 1 = n + 2 by omega, show m + 1 + 1 = m + 2 by omega]; exact CPN_r2 s (by omega) (by omega)
    · rw [e, show n + 1 + 2 = n + 3 by omega, show m + 1 + 2 = m + 3 by omega]; exact CPN_r3 s (by omega) (by omega)
    · rw [e, show n + 1 + 3 = n + 4 by omega, show m + 1 + 3 = m + 4 by omega]; exact CPN_r4 s (by omega) (by omega)
  · rw [if_neg c, if_neg c]
    by_cases c2 : k < 28
    · rw [if_pos c2, if_pos c2]; exact CPN_r5 s (by omega) (by omega)
    · rw [if_neg c2, if_neg c2]; exact CPN_l h n m
/-- the row of a now whose cells are the same -/
theorem CV_congr {h h' : zH} {n : Int} (e : ∀ a b, n ≤ a → a ≤ n + 5 → h' a b = h a b) (k : Int) : CV h' n k = CV h n k := by
  unfold CV
  split
  · exact e _ _ (by omega) (by omega)
  · split
    · exact e _ _ (by omega) (by omega)
    · exact e _ _ (by omega) (by omega)
theorem CV_0 {h : zH} {n d : Int} (d0 : 0 ≤ d) (d1 : d < 6) : CV h n (4 * d) = h (n + 1) d := by
  unfold CV
  rw [if_pos (by omega), show 4 * d % 4 = 0 by omega, show 4 * d / 4 = d by omega, Int.add_zero]
theorem CV_1 {h : zH} {n d : Int} (d0 : 0 ≤ d) (d1 : d < 6) : CV h n (4 * d + 1) = h (n + 2) d := by
  unfold CV
  rw [if_pos (by omega), show (4 * d + 1) % 4 = 1 by omega, show (4 * d + 1) / 4 = d by omega, show n + 1 + 1 = n + 2 by omega]
theorem CV_2 {h : zH} {n d : Int} (d0 : 0 ≤ d) (d1 : d < 6) : CV h n (4 * d + 2) = h (n + 3) d := by
  unfold CV
  rw [if_pos (by omega), show (4 * d + 2) % 4 = 2 by omega, show (4 * d + 2) / 4 = d by omega, show n + 1 + 2 = n + 3 by omega]
theorem CV_3 {h : zH} {n d : Int} (d0 : 0 ≤ d) (d1 : d < 6) : CV h n (4 * d + 3) = h (n + 4) d := by
  unfold CV
  rw [if_pos (by omega), show (4 * d + 3) % 4 = 3 by omega, show (4 * d + 3) / 4 = d by omega, show n + 1 + 3 = n + 4 by omega]
theorem CV_h {h : zH} {n c : Int} (c0 : 0 ≤ c) (c1 : c < 4) : CV h n (24 + c) = h (n + 5) c := by
  unfold CV
  rw [if_neg (by omega), if_pos (by omega), show 24 + c - 24 = c by omega]
theorem CV_l (h : zH) (n : Int) : CV h n 28 = h n 5 := by
  unfold CV
  rw [if_neg (by omega), if_neg (by omega)]
theorem CV_up {h : zH} {n a b v k k' : Int} (k0 : 0 ≤ k) (k1 : k ≤ 28) (kk0 : 0 ≤ k') (kk1 : k' ≤ 28) (hk : (k < 24 ∧ a = n + 1 + k % 4 ∧ b = k / 4) ∨ (24 ≤ k ∧ k < 28 ∧ a = n + 5 ∧ b = k - 24) ∨ (k = 28 ∧ a = n ∧ b = 5)) : CV (zup h a b v) n k' = if k' = k then v else CV h n k' := by
  unfold CV
  by_cases e : k' = k
  · subst e
    rw [if_pos rfl]
    rcases hk with ⟨c, rfl, rfl⟩ | ⟨c, c2, rfl, rfl⟩ | ⟨c, rfl, rfl⟩
    · rw [if_pos c, zup_same]
    · rw [if_neg (by omega), if_pos c2, zup_same]
    · rw [if_neg (by omega), if_neg (by omega), zup_same]
  · rw [if_neg e]
    by_cases c : k' < 24
    · rw [if_pos c, if_pos c, zup_ne (fun q => by have := q.1; have := q.2; omega)]
    · rw [if_neg c, if_neg c]
      by_cases c2 : k' < 28
      · rw [if_pos c2, if_pos c2, zup_ne (fun q => by have := q.1; have := q.2; omega)]
      · rw [if_neg c2, if_neg c2, zup_ne (fun q => by have := q.1; have := q.2; omega)]
theorem qX6_copyFrom {l : Launch} {g h : zH} {Q : zQt} (hg : zGd g) {n m : Int} (hn : n ∈ NOWS) (hm : m ∈ NOWS) (s : sep n m) (hQ : Q none (SHL, g) (CPN h n m)) : zC l mX6_copyFrom [zr n, zr m] (SHL, g) h Q := by
  refine z_method kX6_copyFrom.1 rfl (Nat.le_of_ble_eq_true rfl) (fun hok hh => ?_)
  unfold sep at s
  have n9 := NOWS_pos hn
  have m9 := NOWS_pos hm
  obtain ⟨ns0, ns1, ns2, ns3, ns4, ns5, ng0, ng1, ng2, ng3, ng4⟩ := nowFa hg hn
  obtain ⟨ms0, ms1, ms2, ms3, ms4, ms5, mg0, mg1, mg2, mg3, mg4⟩ := nowFa hg hm
  refine z_aload_n dX6_copyFrom_0 rfl (by omega) ?_
  refine y_geta (k' := 0) fl_X6_9 rfl dX6_copyFrom_1 ms0 (by decide) mg0 ?_
  refine z_aload_n dX6_copyFrom_4 rfl (by omega) ?_
  refine y_geta (k' := 0) fl_X6_9 rfl dX6_copyFrom_5 ns0 (by decide) ng0 ?_
  refine z_callSN (T := mX9_copyRow) (As := [_, _]) kX9_copyRow ml_X6_30 ⟨by decide, by decide⟩ dX6_copyFrom_8 rfl rfl (Nat.le_of_ble_eq_true rfl) (Nat.le_refl _) (Nat.le_refl _) (qX9_copyRow hg ms1 ns1 (by omega) (by omega) (by omega) (by omega) ?_)
  refine z_aload_n dX6_copyFrom_11 rfl (by omega) ?_
  refine y_geta (k' := 1) fl_X6_15 rfl dX6_copyFrom_12 ms0 (by decide) mg1 ?_
  refine z_aload_n dX6_copyFrom_15 rfl (by omega) ?_
  refine y_geta (k' := 1) fl_X6_15 rfl dX6_copyFrom_16 ns0 (by decide) ng1 ?_
  refine z_callSN (T := mX9_copyRow) (As := [_, _]) kX9_copyRow ml_X6_30 ⟨by decide, by decide⟩ dX6_copyFrom_19 rfl rfl (Nat.le_of_ble_eq_true rfl) (Nat.le_refl _) (Nat.le_refl _) (qX9_copyRow hg ms2 ns2 (by omega) (by omega) (by omega) (by omega) ?_)
  refine z_aload_n dX6_copyFrom_22 rfl (by omega) ?_
  refine y_geta (k' := 2) fl_X6_18 rfl dX6_copyFrom_23 ms0 (by decide) mg2 ?_
  refine z_aload_n dX6_copyFrom_26 rfl (by omega) ?_
  refine y_geta (k' := 2) fl_X6_18 rfl dX6_copyFrom_27 ns0 (by decide) ng2 ?_
  refine z_callSN (T := mX9_copyRow) (As := [_, _]) kX9_copyRow ml_X6_30 ⟨by decide, by decide⟩ dX6_copyFrom_30 rfl rfl (Nat.le_of_ble_eq_true rfl) (Nat.le_refl _) (Nat.le_refl _) (qX9_copyRow hg ms3 ns3 (by omega) (by omega) (by omega) (by omega) ?_)
  refine z_aload_n dX6_copyFrom_33 rfl (by omega) ?_
  refine y_geta (k' := 3) fl_X6_21 rfl dX6_copyFrom_34 ms0 (by decide) mg3 ?_
  refine z_aload_n dX6_copyFrom_37 rfl (by omega) ?_
  refine y_geta (k' := 3) fl_X6_21 rfl dX6_copyFrom_38 ns0 (by decide) ng3 ?_
  refine z_callSN (T := mX9_copyRow) (As := [_, _]) kX9_copyRow ml_X6_30 ⟨by decide, by decide⟩ dX6_copyFrom_41 rfl rfl (Nat.le_of_ble_eq_true rfl) (Nat.le_refl _) (Nat.le_refl _) (qX9_copyRow hg ms4 ns4 (by omega) (by omega) (by omega) (by omega) ?_)
  refine z_aload_n dX6_copyFrom_44 rfl (by omega) ?_
  refine y_geta (k' := 4) fl_X6_24 rfl dX6_copyFrom_45 ms0 (by decide) mg4 ?_
  refine z_aload_n dX6_copyFrom_48 rfl (by omega) ?_
  refine y_geta (k' := 4) fl_X6_24 rfl dX6_copyFrom_49 ns0 (by decide) ng4 ?_
  refine z_callSN (T := mX9_copyRow) (As := [_, _]) kX9_copyRow ml_X6_30 ⟨by decide, by decide⟩ dX6_copyFrom_52 rfl rfl (Nat.le_of_ble_eq_true rfl) (Nat.le_refl _) (Nat.le_refl _) (qX9_copyRow hg ms5 ns5 (by omega) (by omega) (by omega) (by omega) ?_)
  refine z_aload_n dX6_copyFrom_55 rfl (by omega) ?_
  refine z_aload_n dX6_copyFrom_56 rfl (by omega) ?_
  refine y_geti (k' := 5) fl_X6_35 rfl dX6_copyFrom_57 ms0 (by decide) ((cpo_ne (by omega)).trans ((cpo_ne (by omega)).trans ((cpo_ne (by omega)).trans ((cpo_ne (by omega)).trans (cpo_ne (by omega)))))) ?_
  refine y_puti (k' := 5) fl_X6_35 rfl dX6_copyFrom_60 ns0 (by decide)  ?_
  refine z_ret (v := none) dX6_copyFrom_63 trivial (Nat.add_zero _).symm (Nat.add_zero _).symm rfl ?_
  exact hQ
/-- the refs of the history: the nows 32, 38 .. 86, each once -/
def HG (g : zH) : Prop := (∀ i, 0 ≤ i → i < 10 → ∃ j, 0 ≤ j ∧ j < 10 ∧ g 31 i = 32 + 6 * j) ∧ (∀ i j, 0 ≤ i → i < 10 → 0 ≤ j → j < 10 → g 31 i = g 31 j → i = j)
theorem HN_in {n j : Int} (j0 : 0 ≤ j) (j1 : j < 10) (e : n = 32 + 6 * j) : n ∈ NOWS := by
  have : j = 0 ∨ j = 1 ∨ j = 2 ∨ j = 3 ∨ j = 4 ∨ j = 5 ∨ j = 6 ∨ j = 7 ∨ j = 8 ∨ j = 9 := by omega
  rcases this with rfl | rfl | rfl | rfl | rfl | rfl | rfl | rfl | rfl | rfl <;> (subst e; decide)
theorem HG.mem {g : zH} (H : HG g) {i : Int} (i0 : 0 ≤ i) (i1 : i < 10) : g 31 i ∈ NOWS := by
  obtain ⟨j, j0, j1, e⟩ := H.1 i i0 i1
  exact HN_in j0 j1 e
theorem HG.rg {g : zH} (H : HG g) {i : Int} (i0 : 0 ≤ i) (i1 : i < 10) : 32 ≤ g 31 i ∧ g 31 i ≤ 86 := by
  obtain ⟨j, j0, j1, e⟩ := H.1 i i0 i1
  omega
theorem HG.sp {g : zH} (H : HG g) {i j : Int} (i0 : 0 ≤ i) (i1 : i < 10) (j0 : 0 ≤ j) (j1 : j < 10) (ne : i ≠ j) : sep (g 31 i) (g 31 j) := by
  obtain ⟨a, a0, a1, ea⟩ := H.1 i i0 i1
  obtain ⟨b, b0, b1, eb⟩ := H.1 j j0 j1
  have : g 31 i ≠ g 31 j := fun q => ne (H.2 i j i0 i1 j0 j1 q)
  unfold sep
  omega
theorem STAT_31 : ∀ q ∈ STAT, q.1 ≠ 31 ∧ ¬ (q.1 = 1 ∧ (q.2.1 = 1 ∨ q.2.1 = 2)) := by decide +kernel
theorem zGd_31 {g : zH} (hg : zGd g) {i v : Int} : zGd (zup g 31 i v) := fun q hq => (zup_ne (fun z => (STAT_31 q hq).1 z.1)).trans (hg q hq)
def rotN (g : zH) (m : Nat) : zH := fun a b => if a = 31 ∧ 0 ≤ b ∧ b < m then g 31 (b + 1) else g a b
theorem rotN_ge {g : zH} {m : Nat} {b : Int} (hb : (m : Int) ≤ b) : rotN g m 31 b = g 31 b := by unfold rotN; rw [if_neg (by omega)]
theorem rotN_lt {g : zH} {m : Nat} {b : Int} (b0 : 0 ≤ b) (hb : b < (m : Int)) : rotN g m 31 b = g 31 (b + 1) := by unfold rotN; rw [if_pos ⟨rfl, b0, hb⟩]
theorem rotN_ne {g : zH} {m : Nat} {a b : Int} (ha : a ≠ 31) : rotN g m a b = g a b := by unfold rotN; rw [if_neg (fun q => ha q.1)]
theorem rotN_0 (g : zH) : rotN g 0 = g := by funext a b; unfold rotN; rw [if_neg (by omega)]
theorem rotN_succ (g : zH) (m : Nat) : zup (rotN g m) 31 m (g 31 ((m : Int) + 1)) = rotN g (m + 1) := by
  funext a b
  by_cases e : a = 31 ∧ b = m
  · obtain ⟨rfl, rfl⟩ := e
    rw [zup_same, rotN_lt (by omega) (by omega)]
  · rw [zup_ne e]
    by_cases ha : a = 31
    · subst ha
      by_cases c : 0 ≤ b ∧ b < (m : Int)
      · rw [rotN_lt c.1 c.2, rotN_lt c.1 (by omega)]
      · unfold rotN
        have c1 : ¬ ((31 : Int) = 31 ∧ 0 ≤ b ∧ b < (m : Int)) := by omega
        have c2 : ¬ ((31 : Int) = 31 ∧ 0 ≤ b ∧ b < ((m + 1 : Nat) : Int)) := by omega
        rw [if_neg c1, if_neg c2]
    · rw [rotN_ne ha, rotN_ne ha]
theorem zGd_rot {g : zH} (hg : zGd g) (m : Nat) : zGd (rotN g m) := fun q hq => (rotN_ne (STAT_31 q hq).1).trans (hg q hq)
/-- the oldest goes behind -/
def rot (g : zH) : zH := zup (rotN g 9) 31 9 (g 31 0)
theorem zGd_rot9 {g : zH} (hg : zGd g) : zGd (rot g) := zGd_31 (zGd_rot hg 9)
theorem rot_9 (g : zH) : rot g 31 9 = g 31 0 := zup_same _ _ _ _
theorem rot_i {g : zH} {i : Int} (i0 : 0 ≤ i) (i1 : i < 9) : rot g 31 i = g 31 (i + 1) := (zup_ne (by omega)).trans (rotN_lt i0 i1)
theorem rot_ne {g : zH} {a b : Int} (ha : a ≠ 31) : rot g a b = g a b := (zup_ne (fun q => ha q.1)).trans (rotN_ne ha)
theorem HG_rot {g : zH} (H : HG g) : HG (rot g) := by
  have key : ∀ i, 0 ≤ i → i < 10 → ∃ j, 0 ≤ j ∧ j < 10 ∧ rot g 31 i = g 31 j ∧ (j = i + 1 ∨ (i = 9 ∧ j = 0)) := fun i i0 i1 => by
    by_cases e : i = 9
    · subst e; exact ⟨0, by omega, by omega, rot_9 g, Or.inr ⟨rfl, rfl⟩⟩
    · exact ⟨i + 1, by omega, by omega, rot_i i0 (by omega), Or.inl rfl⟩
  constructor
  · intro i i0 i1
    obtain ⟨j, j0, j1, e, _⟩ := key i i0 i1
    rw [e]
    exact H.1 j j0 j1
  · intro i k i0 i1 k0 k1 q
    obtain ⟨j, j0, j1, e, c⟩ := key i i0 i1
    obtain ⟨m, m0, m1, e2, c2⟩ := key k k0 k1
    rw [e, e2] at q
    have := H.2 j m j0 j1 m0 m1 q
    omega
theorem lpX3_lose {l : Launch} {g h : zH} {Q : zQt} (hg : zGd g) (H : HG g) (K : zW zX0 l mX3_loseOldest ((SHL, g).1.length + zmc mX3_loseOldest) (ztot (SHL, g) + zms mX3_loseOldest) Q 35 [some (zr 30), some (zr (g 31 0)), some (zi 10)] [] (SHL, rotN g 9) h) : ∀ (n i : Nat), i + n = 9 → zW zX0 l mX3_loseOldest ((SHL, g).1.length + zmc mX3_loseOldest) (ztot (SHL, g) + zms mX3_loseOldest) Q 9 [some (zr 30), some (zr (g 31 0)), some (zi (1 + (i : Int)))] [] (SHL, rotN g i) h := by
  have hr := H.rg (Int.le_refl 0) (by omega)
  intro n
  induction n with
  | zero =>
    intro i hi
    have e9 : i = 9 := by omega
    subst e9
    refine z_iload_n dX3_loseOldest_9 rfl ?_
    refine z_bipush dX3_loseOldest_10 ⟨by decide, by decide⟩ ?_
    refine z_icmp_ge (tgt := 35) dX3_loseOldest_12 (by decide) (fun _ => ?_) (fun q => False.elim (by omega))
    exact K
  | succ n ih =>
    intro i hi
    have hg2 := zGd_rot hg i
    have m1 := H.mem (i := (i : Int) + 1) (by omega) (by omega)
    have xs : ∀ g', zsh (SHL, g') (g 31 ((i : Int) + 1)) = some (5, 6) := fun g' => (nowFa hg m1).1
    refine z_iload_n dX3_loseOldest_9 rfl ?_
    refine z_bipush dX3_loseOldest_10 ⟨by decide, by decide⟩ ?_
    refine z_icmp_ge (tgt := 35) dX3_loseOldest_12 (by decide) (fun q => False.elim (by omega)) (fun _ => ?_)
    refine z_aload_n dX3_loseOldest_15 rfl (by omega) ?_
    refine y_geta (k' := 0) fl_X3_11 rfl dX3_loseOldest_16 sh_30 (by decide) (gf_30_0 hg2) ?_
    refine z_iload_n dX3_loseOldest_19 rfl ?_
    refine z_iconst dX3_loseOldest_20 ⟨by decide, by decide⟩ ?_
    refine y_isub dX3_loseOldest_21 (by omega) (by omega) ?_
    refine z_aload_n dX3_loseOldest_22 rfl (by omega) ?_
    refine y_geta (k' := 0) fl_X3_11 rfl dX3_loseOldest_23 sh_30 (by decide) (gf_30_0 hg2) ?_
    refine z_iload_n dX3_loseOldest_26 rfl ?_
    refine z_naload dX3_loseOldest_27 sh_31 (by omega) (by omega) ((congrArg (rotN g i 31) (Int.add_comm 1 (i : Int))).trans (rotN_ge (by omega))) ?_
    refine z_aast dX3_loseOldest_28 (by decide) sh_31 (by omega) (by omega) (xs _) ?_
    show zW _ _ _ _ _ _ _ _ _ (SHL, zup (rotN g i) 31 (1 + (i : Int) - 1) (g 31 ((i : Int) + 1))) _
    rw [show 1 + (i : Int) - 1 = (i : Int) by omega, rotN_succ]
    refine y_iinc dX3_loseOldest_29 (by decide) rfl rfl (by omega) (by omega) lss_3_2 ?_
    refine z_goto (tgt := 9) dX3_loseOldest_32 (by decide) ?_
    have q := ih (i + 1) (by omega)
    rw [show 1 + (((i + 1 : Nat)) : Int) = 1 + (i : Int) + 1 by omega] at q
    exact q
theorem qX3_loseOldest {l : Launch} {g h : zH} {Q : zQt} (hg : zGd g) (H : HG g) (hQ : Q none (SHL, rot g) (zup h 30 1 9)) : zC l mX3_loseOldest [zr 30] (SHL, g) h Q := by
  refine z_method kX3_loseOldest.1 rfl (Nat.le_of_ble_eq_true rfl) (fun hok hh => ?_)
  have hg9 := zGd_rot hg 9
  have hr := H.rg (Int.le_refl 0) (by omega)
  have os : ∀ g', zsh (SHL, g') (g 31 0) = some (5, 6) := fun g' => (nowFa hg (H.mem (Int.le_refl 0) (by omega))).1
  refine z_aload_n dX3_loseOldest_0 rfl (by omega) ?_
  refine y_geta (k' := 0) fl_X3_11 rfl dX3_loseOldest_1 sh_30 (by decide) (gf_30_0 hg) ?_
  refine z_iconst dX3_loseOldest_4 ⟨by decide, by decide⟩ ?_
  refine z_naload dX3_loseOldest_5 sh_31 (by omega) (by omega) (show (SHL, g).2 31 0 = g 31 0 from rfl) ?_
  refine z_astore_n dX3_loseOldest_6 (by decide) rfl (by omega) lss_3_1 ?_
  refine z_iconst dX3_loseOldest_7 ⟨by decide, by decide⟩ ?_
  refine z_istore_n dX3_loseOldest_8 (by decide) rfl lss_3_2 ?_
  have K := lpX3_lose (l := l) (h := h) (Q := Q) hg H (by
    refine z_aload_n dX3_loseOldest_35 rfl (by omega) ?_
    refine y_geta (k' := 0) fl_X3_11 rfl dX3_loseOldest_36 sh_30 (by decide) (gf_30_0 hg9) ?_
    refine z_bipush dX3_loseOldest_39 ⟨by decide, by decide⟩ ?_
    refine z_aload_n dX3_loseOldest_41 rfl (by omega) ?_
    refine z_aast dX3_loseOldest_42 (by decide) sh_31 (by omega) (by omega) (os _) ?_
    show zW _ _ _ _ _ _ _ _ _ (SHL, rot g) _
    refine z_aload_n dX3_loseOldest_43 rfl (by omega) ?_
    refine z_bipush dX3_loseOldest_44 ⟨by decide, by decide⟩ ?_
    refine y_puti (k' := 1) fl_X3_18 rfl dX3_loseOldest_46 sh_30 (by decide)  ?_
    refine z_ret (v := none) dX3_loseOldest_49 trivial (Nat.add_zero _).symm (Nat.add_zero _).symm rfl ?_
    exact hQ) 9 0 rfl
  rw [rotN_0] at K
  exact K
def rmG (g h : zH) : zH := if h 30 1 = 10 then rot g else g
def rmH (h : zH) : zH := if h 30 1 = 10 then zup h 30 1 9 else h
/-- the present behind the history -/
def remH (g h : zH) : zH := zup (CPN (rmH h) (rmG g h 31 (rmH h 30 1)) 24) 30 1 (rmH h 30 1 + 1)
theorem rmG_d {g h : zH} (hg : zGd g) : zGd (rmG g h) := by unfold rmG; split; exact zGd_rot9 hg; exact hg
theorem rmG_H {g h : zH} (H : HG g) : HG (rmG g h) := by unfold rmG; split; exact HG_rot H; exact H
theorem rmG_1 {g h : zH} {b : Int} : rmG g h 1 b = g 1 b := by unfold rmG; split; exact rot_ne (by decide); rfl
theorem rmH_k {h : zH} (h0 : 0 ≤ h 30 1) (h1 : h 30 1 ≤ 10) : 0 ≤ rmH h 30 1 ∧ rmH h 30 1 ≤ 9 := by
  unfold rmH
  split
  · rw [zup_same]; omega
  · omega
theorem rmH_ne {h : zH} {a b : Int} (ha : ¬ (a = 30 ∧ b = 1)) : rmH h a b = h a b := by unfold rmH; split; exact zup_ne ha; rfl
theorem remH_ne {g h : zH} {a b : Int} (H : HG g) (h0 : 0 ≤ h 30 1) (h1 : h 30 1 ≤ 10) (ha : a < 30 ∨ 91 < a) : remH g h a b = h a b := by
  have k := rmH_k h0 h1
  have r := (rmG_H (h := h) H).rg k.1 (by omega)
  unfold remH
  rw [zup_ne (by omega), CPN_ne (by omega), rmH_ne (by omega)]
theorem lwX3_rem {l : Launch} {g h : zH} {Q : zQt} {G : zH} (hg : zGd g) (hg2 : zGd G) (H : HG G) (h0 : 0 ≤ h 30 1) (h1 : h 30 1 ≤ 9) (hQ : Q none (SHL, G) (zup (CPN h (G 31 (h 30 1)) 24) 30 1 (h 30 1 + 1))) : zW zX0 l mX3_remember ((SHL, g).1.length + zmc mX3_remember) (ztot (SHL, g) + zms mX3_remember) Q 13 [some (zr 30), some (zr 24)] [] (SHL, G) h := by
  have nm := H.mem h0 (by omega)
  have nr := H.rg h0 (by omega)
  have ns0 : zsh (SHL, G) (G 31 (h 30 1)) = some (5, 6) := (nowFa hg2 nm).1
  refine z_aload_n dX3_remember_13 rfl (by omega) ?_
  refine y_geta (k' := 0) fl_X3_11 rfl dX3_remember_14 sh_30 (by decide) (gf_30_0 hg2) ?_
  refine z_aload_n dX3_remember_17 rfl (by omega) ?_
  refine y_geti (k' := 1) fl_X3_18 rfl dX3_remember_18 sh_30 (by decide) rfl ?_
  refine z_naload dX3_remember_21 sh_31 (by omega) (by omega) (show (SHL, G).2 31 (h 30 1) = G 31 (h 30 1) from rfl) ?_
  refine z_aload_n dX3_remember_22 rfl (by omega) ?_
  refine z_callV (T := mX6_copyFrom) (As := [_]) kX6_copyFrom ml_X3_25 ⟨by decide, by decide⟩ dX3_remember_23 rfl rfl (Nat.le_of_ble_eq_true rfl) ns0 ⟨by decide, rfl⟩ (Nat.le_refl _) (Nat.le_refl _) (qX6_copyFrom hg2 nm (by decide) (by unfold sep; omega) ?_)
  refine z_aload_n dX3_remember_26 rfl (by omega) ?_
  refine z_dup dX3_remember_27 rfl ?_
  refine y_geti (k' := 1) fl_X3_18 rfl dX3_remember_28 sh_30 (by decide) (CPN_ne (by omega)) ?_
  refine z_iconst dX3_remember_31 ⟨by decide, by decide⟩ ?_
  refine y_iadd dX3_remember_32 (by omega) (by omega) ?_
  refine y_puti (k' := 1) fl_X3_18 rfl dX3_remember_33 sh_30 (by decide)  ?_
  refine z_ret (v := none) dX3_remember_36 trivial (Nat.add_zero _).symm (Nat.add_zero _).symm rfl ?_
  exact hQ
theorem qX3_remember {l : Launch} {g h : zH} {Q : zQt} (hg : zGd g) (H : HG g) (h0 : 0 ≤ h 30 1) (h1 : h 30 1 ≤ 10) (hQ : Q none (SHL, rmG g h) (remH g h)) : zC l mX3_remember [zr 30, zr 24] (SHL, g) h Q := by
  refine z_method kX3_remember.1 rfl (Nat.le_of_ble_eq_true rfl) (fun hok hh => ?_)
  refine z_aload_n dX3_remember_0 rfl (by omega) ?_
  refine y_geti (k' := 1) fl_X3_18 rfl dX3_remember_1 sh_30 (by decide) rfl ?_
  refine z_bipush dX3_remember_4 ⟨by decide, by decide⟩ ?_
  refine z_icmp_lt (tgt := 13) dX3_remember_6 (by decide) (fun c6 => ?_) (fun c6 => ?_)
  ·
    have e1 : rmG g h = g := if_neg (by omega)
    have e2 : rmH h = h := if_neg (by omega)
    rw [remH, e1, e2] at hQ
    exact lwX3_rem hg hg H h0 (by omega) hQ
  ·
    have e1 : rmG g h = rot g := if_pos (by omega)
    have e2 : rmH h = zup h 30 1 9 := if_pos (by omega)
    rw [remH, e1, e2] at hQ
    refine z_aload_n dX3_remember_9 rfl (by omega) ?_
    refine z_callV (T := mX3_loseOldest) (As := []) kX3_loseOldest ml_X3_22 ⟨by decide, by decide⟩ dX3_remember_10 rfl rfl (Nat.le_of_ble_eq_true rfl) sh_30 ⟨by decide, rfl⟩ (Nat.le_refl _) (Nat.le_refl _) (qX3_loseOldest hg H ?_)
    exact lwX3_rem hg (zGd_rot9 hg) (HG_rot H) (by rw [zup_same]; omega) (by rw [zup_same]; omega) hQ
theorem qX3_takeBack {l : Launch} {g h : zH} {Q : zQt} (hg : zGd g) (H : HG g) (h0 : 0 < h 30 1) (h1 : h 30 1 ≤ 10) (hQ : Q none (SHL, g) (CPN (zup h 30 1 (h 30 1 - 1)) 24 (g 31 (h 30 1 - 1)))) : zC l mX3_takeBack [zr 30, zr 24] (SHL, g) h Q := by
  refine z_method kX3_takeBack.1 rfl (Nat.le_of_ble_eq_true rfl) (fun hok hh => ?_)
  have nm := H.mem (i := h 30 1 - 1) (by omega) (by omega)
  have nr := H.rg (i := h 30 1 - 1) (by omega) (by omega)
  have ns0 : zsh (SHL, g) (g 31 (h 30 1 - 1)) = some (5, 6) := (nowFa hg nm).1
  refine z_aload_n dX3_takeBack_0 rfl (by omega) ?_
  refine y_geti (k' := 1) fl_X3_18 rfl dX3_takeBack_1 sh_30 (by decide) rfl ?_
  refine z_if_le (tgt := 30) dX3_takeBack_4 (by decide) (fun q => False.elim (by omega)) (fun _ => ?_)
  refine z_aload_n dX3_takeBack_7 rfl (by omega) ?_
  refine z_dup dX3_takeBack_8 rfl ?_
  refine y_geti (k' := 1) fl_X3_18 rfl dX3_takeBack_9 sh_30 (by decide) rfl ?_
  refine z_iconst dX3_takeBack_12 ⟨by decide, by decide⟩ ?_
  refine y_isub dX3_takeBack_13 (by omega) (by omega) ?_
  refine y_puti (k' := 1) fl_X3_18 rfl dX3_takeBack_14 sh_30 (by decide)  ?_
  refine z_aload_n dX3_takeBack_17 rfl (by omega) ?_
  refine z_aload_n dX3_takeBack_18 rfl (by omega) ?_
  refine y_geta (k' := 0) fl_X3_11 rfl dX3_takeBack_19 sh_30 (by decide) (gf_30_0 hg) ?_
  refine z_aload_n dX3_takeBack_22 rfl (by omega) ?_
  refine y_geti (k' := 1) fl_X3_18 rfl dX3_takeBack_23 sh_30 (by decide) (zup_same _ _ _ _) ?_
  refine z_naload dX3_takeBack_26 sh_31 (by omega) (by omega) (show (SHL, g).2 31 (h 30 1 - 1) = g 31 (h 30 1 - 1) from rfl) ?_
  refine z_callV (T := mX6_copyFrom) (As := [_]) kX6_copyFrom ml_X3_25 ⟨by decide, by decide⟩ dX3_takeBack_27 rfl rfl (Nat.le_of_ble_eq_true rfl) sh_24 ⟨by decide, rfl⟩ (Nat.le_refl _) (Nat.le_refl _) (qX6_copyFrom hg (by decide) nm (by unfold sep; omega) ?_)
  refine z_ret (v := none) dX3_takeBack_30 trivial (Nat.add_zero _).symm (Nat.add_zero _).symm rfl ?_
  exact hQ
