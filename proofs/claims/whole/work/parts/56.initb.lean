/-! An image, and the whole class, are made. -/
def X5L : List (Nat × Nat) := [(5, 6)] ++ X6L ++ [(2, 2)] ++ X3L
/-- an image, made -/
def IMv (N r : Int) (G h G' h' : zH) : Prop := (∀ a b : Int, a ≤ N → a ≠ r → G' a b = G a b) ∧ G' r 0 = N + 1 ∧ G' r 1 = N + 7 ∧ (∀ k : Int, 0 ≤ k → k < 5 → G' (N + 1) k = N + 2 + k) ∧ G' (N + 7) 0 = N + 8 ∧ (∀ j : Int, 0 ≤ j → j < 10 → G' (N + 8) j = N + 9 + 6 * j) ∧ (∀ j k : Int, 0 ≤ j → j < 10 → 0 ≤ k → k < 5 → G' (N + 9 + 6 * j) k = N + 10 + 6 * j + k) ∧ (∀ a b : Int, a ≤ N → h' a b = h a b) ∧ (∀ a b : Int, N < a → a ≤ N + 68 → h' a b = 0)
theorem qX5_init {l : Launch} {A : List (Nat × Nat)} {G h : zH} {Q : zQt} {r : Int} (hs : zsh (A, G) r = some (4, 3)) (hl : A.length < 500) (hQ : ∀ G' h', IMv A.length r G h G' h' → Q none (A ++ X5L, G') h') : zC l mX5_init [zr r] (A, G) h Q := by
  have hs9 := zsh_le hs
  refine z_method kX5_init.1 rfl (Nat.le_of_ble_eq_true rfl) (fun hok hh => ?_)
  refine z_aload_n dX5_init_0 rfl (by omega) ?_
  refine z_objInit hs9.1 kobj ml_X5_1 (by decide) (by decide) dX5_init_1 ?_
  refine z_aload_n dX5_init_4 rfl (by omega) ?_
  refine z_new zcl_X6 hdf_X6 lc_X5_7 dX5_init_5 (by show (A).length + 1 ≤ A.length + 68; (try simp only [List.length_append, len_1, X6L_len, X3L_len]); omega) (by show tot (A) + 6 ≤ tot A + 386; (try simp only [tot_app, tot_1, X6L_tot, X3L_tot]); omega) (by show (A).length < 2147483647; (try simp only [List.length_append, len_1, X6L_len, X3L_len]); omega) ?_
  dsimp only
  refine z_dup dX5_init_8 rfl ?_
  have n1 : ((A ++ [(5, 6)]).length : Int) = A.length + 1 := by simp only [List.length_append, len_1, X6L_len, X3L_len]; omega
  have n2 : ((A ++ [(5, 6)] ++ X6L).length : Int) + 1 = A.length + 7 := by simp only [List.length_append, len_1, X6L_len, X3L_len]; omega
  have n3 : ((A ++ [(5, 6)] ++ X6L ++ [(2, 2)]).length : Int) = A.length + 7 := by simp only [List.length_append, len_1, X6L_len, X3L_len]; omega
  refine z_callIN (T := mX6_init) kX6_init (by omega) (List.mem_of_getElem? (i := 8) rfl) ⟨by decide, by decide⟩ dX5_init_9 (Nat.le_of_ble_eq_true rfl) (by show (A ++ [(5, 6)]).length + 5 ≤ A.length + 68; (try simp only [List.length_append, len_1, X6L_len, X3L_len]); omega) (by show tot (A ++ [(5, 6)]) + 28 ≤ tot A + 386; (try simp only [tot_app, tot_1, X6L_tot, X3L_tot]); omega) (qX6_init (r := (A.length : Int) + 1) (zsh_last rfl) (by simp only [List.length_append, len_1, X6L_len, X3L_len]; omega) (fun G1 h1 f1 f2 f3 g0 g1 g2 g3 g4 => ?_))
  rw [n1] at f1 f2 f3 g0 g1 g2 g3 g4
  refine y_putFo (k' := 0) ff_X5_10 rfl rfl dX5_init_12 (zsh_app (G := G) (zsh_app (G := G) hs)) (by decide) ?_
  dsimp only
  refine z_aload_n dX5_init_15 rfl (by omega) ?_
  refine z_new zcl_X3 hdf_X3 lc_X5_16 dX5_init_16 (by show (A ++ [(5, 6)] ++ X6L).length + 1 ≤ A.length + 68; (try simp only [List.length_append, len_1, X6L_len, X3L_len]); omega) (by show tot (A ++ [(5, 6)] ++ X6L) + 2 ≤ tot A + 386; (try simp only [tot_app, tot_1, X6L_tot, X3L_tot]); omega) (by show (A ++ [(5, 6)] ++ X6L).length < 2147483647; (try simp only [List.length_append, len_1, X6L_len, X3L_len]); omega) ?_
  dsimp only
  rw [n2]
  refine z_dup dX5_init_19 rfl ?_
  refine z_callI (T := mX3_init) kX3_init (by omega) ml_X5_18 ⟨by decide, by decide⟩ dX5_init_20 (Nat.le_of_ble_eq_true rfl) (by show (A ++ [(5, 6)] ++ X6L ++ [(2, 2)]).length + 61 ≤ A.length + 68; (try simp only [List.length_append, len_1, X6L_len, X3L_len]); omega) (by show tot (A ++ [(5, 6)] ++ X6L ++ [(2, 2)]) + 350 ≤ tot A + 386; (try simp only [tot_app, tot_1, X6L_tot, X3L_tot]); omega) (qX3_init (r := (A.length : Int) + 7) (zsh_last (by rw [n2])) (by simp only [List.length_append, len_1, X6L_len, X3L_len]; omega) (fun G3 h3 hv => ?_))
  rw [n3] at hv
  refine y_putFo (k' := 1) ff_X5_19 rfl rfl dX5_init_23 (zsh_app (G := G) (zsh_app (G := G) (zsh_app (G := G) (zsh_app (G := G) hs)))) (by decide) ?_
  dsimp only
  have eL : A ++ [(5, 6)] ++ X6L ++ [(2, 2)] ++ X3L = A ++ X5L := by unfold X5L; simp only [List.append_assoc]
  refine z_ret (v := none) dX5_init_26 trivial (by show (A ++ [(5, 6)] ++ X6L ++ [(2, 2)] ++ X3L).length = A.length + 68; simp only [List.length_append, len_1, X6L_len, X3L_len]) (by show tot (A ++ [(5, 6)] ++ X6L ++ [(2, 2)] ++ X3L) = tot A + 386; simp only [tot_app, tot_1, X6L_tot, X3L_tot]) rfl ?_
  rw [eL]
  obtain ⟨v0, v1, v2, v3, v4, v5⟩ := hv
  have low : ∀ a b : Int, a ≤ (A.length : Int) + 6 → G3 a b = zup G1 r 0 ((A.length : Int) + 1) a b := fun a b a0 => by rw [v0 a b (by omega) (by omega), znw_ne (by omega)]
  have hlow : ∀ a b : Int, a ≤ (A.length : Int) + 6 → h3 a b = h1 a b := fun a b a0 => by rw [v4 a b (by omega), znw_ne (by omega)]
  refine hQ _ _ ⟨fun a b a0 a1 => ?_, ?_, ?_, fun k k0 k1 => ?_, ?_, fun j j0 j1 => ?_, fun j k j0 j1 k0 k1 => ?_, fun a b a0 => ?_, fun a b a0 a1 => ?_⟩
  · rw [zup_ne (by omega), low a b (by omega), zup_ne (by omega), f1 a b (by omega) (by omega), znw_ne (by omega)]
  · rw [zup_ne (by omega), low _ _ (by omega), zup_same]
  · rw [zup_same]
  · rw [zup_ne (by omega), low _ _ (by omega), zup_ne (by omega)]
    rcases (show k = 0 ∨ k = 1 ∨ k = 2 ∨ k = 3 ∨ k = 4 by omega) with rfl | rfl | rfl | rfl | rfl
    · rw [g0]; omega
    · rw [g1]; omega
    · rw [g2]; omega
    · rw [g3]; omega
    · rw [g4]; omega
  · rw [zup_ne (by omega), v1]; omega
  · have q := v2 j j0 (by omega)
    rw [show (A.length : Int) + 7 + 1 = A.length + 8 by omega, show (A.length : Int) + 7 + 2 + 6 * j = A.length + 9 + 6 * j by omega] at q
    rw [zup_ne (by omega)]
    exact q
  · have q := v3 j k j0 (by omega) k0 k1
    rw [show (A.length : Int) + 7 + 2 + 6 * j = A.length + 9 + 6 * j by omega, show (A.length : Int) + 7 + 3 + 6 * j + k = A.length + 10 + 6 * j + k by omega] at q
    rw [zup_ne (by omega)]
    exact q
  · rw [hlow a b (by omega), f2 a b (by omega) trivial, znw_ne (by omega)]
  · by_cases z : a ≤ (A.length : Int) + 6
    · rw [hlow a b z]
      by_cases y : a = (A.length : Int) + 1
      · rw [y, f2 _ b (by omega) trivial, znw_at]
      · exact f3 a b (by omega) (by omega)
    · by_cases y : a = (A.length : Int) + 7
      · rw [y, v4 _ b (by omega), znw_at]
      · exact v5 a b (by omega) (by omega)
theorem X5L_len : X5L.length = 68 := by unfold X5L; simp only [List.length_append, len_1, X6L_len, X3L_len]
theorem X5L_tot : tot X5L = 386 := by unfold X5L; simp only [tot_app, tot_1, X6L_tot, X3L_tot]
def ONE : List (Int × Int × Int) := [(1, 0, 2), (1, 1, 4), (1, 2, 14), (1, 3, 24), (1, 4, 30), (1, 5, 92), (1, 6, 93), (1, 7, 96), (1, 8, 99)]
theorem ONE_1 : ∀ q ∈ ONE, q.1 = 1 := by decide +kernel
/-- the class while it is made: its cells up to n, its first m fields -/
def SG (n m : Int) (G h : zH) : Prop := (∀ q ∈ STAT, 1 < q.1 → q.1 ≤ n → q.1 ≠ 92 → G q.1 q.2.1 = q.2.2) ∧ (∀ q ∈ ONE, q.2.1 < m → G 1 q.2.1 = q.2.2) ∧ (31 ≤ n → ∀ j : Int, 0 ≤ j → j < 10 → G 31 j = 32 + 6 * j) ∧ (∀ a b : Int, 1 ≤ a → a ≤ n → h a b = if (a = 4 ∨ a = 14) ∧ b = 0 then 4 else 0)
theorem SG_step {n m K : Int} {G h G' h' : zH} (S : SG n m G h) (n1 : 1 ≤ n) (K0 : 0 ≤ K) (fG : ∀ a b : Int, a ≤ n + 1 → a ≠ n + 1 → G' a b = znw G (n + 1) a b) (fh : ∀ a b : Int, a ≤ n → h' a b = znw h (n + 1) a b) (fn : ∀ b, h' (n + 1) b = if (n + 1 = 4 ∨ n + 1 = 14) ∧ b = 0 then 4 else 0) (fz : ∀ a b : Int, n + 1 < a → a ≤ n + 1 + K → h' a b = 0) (f14 : n + 1 + K < 14 ∨ 14 ≤ n + 1) (f4 : n + 1 + K < 4 ∨ 4 ≤ n + 1) (nw : ∀ q ∈ STAT, n < q.1 → q.1 ≤ n + 1 + K → q.1 ≠ 92 → G' q.1 q.2.1 = q.2.2) (h31 : n < 31 → 31 ≤ n + 1 + K → ∀ j : Int, 0 ≤ j → j < 10 → G' 31 j = 32 + 6 * j) : SG (n + 1 + K) m G' h' := by
  obtain ⟨s1, s2, s3, s4⟩ := S
  have fr : ∀ a b : Int, a ≤ n → G' a b = G a b := fun a b a0 => by rw [fG a b (by omega) (by omega), znw_ne (by omega)]
  refine ⟨fun q hq q0 q1 q2 => ?_, fun q hq q0 => ?_, fun z j j0 j1 => ?_, fun a b a0 a1 => ?_⟩
  · by_cases y : q.1 ≤ n
    · rw [fr _ _ y]; exact s1 q hq q0 y q2
    · exact nw q hq (by omega) q1 q2
  · rw [fr _ _ n1]; exact s2 q hq q0
  · by_cases y : n < 31
    · exact h31 y z j j0 j1
    · rw [fr _ _ (by omega)]; exact s3 (by omega) j j0 j1
  · by_cases y : a ≤ n
    · rw [fh a b y, znw_ne (by omega)]; exact s4 a b a0 y
    · by_cases x : a = n + 1
      · rw [x]; exact fn b
      · rw [fz a b (by omega) a1, if_neg (by omega)]
theorem SG_put {n m v : Int} {G h : zH} (S : SG n m G h) (n1 : n ≤ 300) (hv : ∀ q ∈ ONE, q.2.1 < m + 1 → ¬ q.2.1 < m → q.2 = (m, v)) (m0 : 0 ≤ m) : SG n (m + 1) (zup G 1 m v) h := by
  obtain ⟨s1, s2, s3, s4⟩ := S
  refine ⟨fun q hq q0 q1 q2 => ?_, fun q hq q0 => ?_, fun z j j0 j1 => ?_, s4⟩
  · rw [zup_ne (by omega)]; exact s1 q hq q0 q1 q2
  · by_cases y : q.2.1 < m
    · rw [zup_ne (by omega)]; exact s2 q hq y
    · have e := hv q hq q0 y
      rw [e, zup_same]
  · rw [zup_ne (by omega)]; exact s3 z j j0 j1
theorem SG_92 {n m k v : Int} {G h : zH} (S : SG n m G h) : SG n m (zup G 92 k v) h := by
  obtain ⟨s1, s2, s3, s4⟩ := S
  refine ⟨fun q hq q0 q1 q2 => ?_, fun q hq q0 => ?_, fun z j j0 j1 => ?_, s4⟩
  · rw [zup_ne (by omega)]; exact s1 q hq q0 q1 q2
  · rw [zup_ne (by omega)]; exact s2 q hq q0
  · rw [zup_ne (by omega)]; exact s3 z j j0 j1
theorem ss_2 : ∀ q ∈ STAT, 1 < q.1 → q.1 ≤ 3 → q.1 ≠ 92 → q = (2, 0, 3) := by decide +kernel
theorem ss_4 : ∀ q ∈ STAT, 3 < q.1 → q.1 ≤ 13 → q.1 ≠ 92 → ∃ k : Fin 9, q = (4, 4 + (k.val : Int), 5 + (k.val : Int)) := by decide +kernel
theorem ss_14 : ∀ q ∈ STAT, 13 < q.1 → q.1 ≤ 23 → q.1 ≠ 92 → ∃ k : Fin 9, q = (14, 4 + (k.val : Int), 15 + (k.val : Int)) := by decide +kernel
theorem ss_24 : ∀ q ∈ STAT, 23 < q.1 → q.1 ≤ 29 → q.1 ≠ 92 → ∃ k : Fin 5, q = (24, (k.val : Int), 25 + (k.val : Int)) := by decide +kernel
theorem ss_30 : ∀ q ∈ STAT, 29 < q.1 → q.1 ≤ 91 → q.1 ≠ 92 → (q = (30, 0, 31) ∨ ∃ (j : Fin 10) (k : Fin 5), q = (32 + 6 * (j.val : Int), (k.val : Int), 33 + 6 * (j.val : Int) + (k.val : Int))) := by decide +kernel
theorem ss_92 : ∀ q ∈ STAT, 91 < q.1 → q.1 ≤ 92 → ¬ q.1 ≠ 92 := by decide +kernel
theorem ss_93 : ∀ q ∈ STAT, 92 < q.1 → q.1 ≤ 95 → q.1 ≠ 92 → (q = (93, 0, 94) ∨ q = (93, 1, 95)) := by decide +kernel
theorem ss_96 : ∀ q ∈ STAT, 95 < q.1 → q.1 ≤ 98 → q.1 ≠ 92 → (q = (96, 0, 97) ∨ q = (96, 1, 98)) := by decide +kernel
theorem ss_99 : ∀ q ∈ STAT, 98 < q.1 → q.1 ≤ 101 → q.1 ≠ 92 → (q = (99, 0, 100) ∨ q = (99, 1, 101)) := by decide +kernel
theorem ss_102 : ∀ q ∈ STAT, 101 < q.1 → q.1 ≤ 170 → q.1 ≠ 92 → (q = (102, 0, 103) ∨ q = (102, 1, 109) ∨ (∃ k : Fin 5, q = (103, (k.val : Int), 104 + (k.val : Int))) ∨ q = (109, 0, 110) ∨ (∃ j : Fin 10, q = (110, (j.val : Int), 111 + 6 * (j.val : Int))) ∨ ∃ (j : Fin 10) (k : Fin 5), q = (111 + 6 * (j.val : Int), (k.val : Int), 112 + 6 * (j.val : Int) + (k.val : Int))) := by decide +kernel
theorem ss_171 : ∀ q ∈ STAT, 170 < q.1 → q.1 ≤ 239 → q.1 ≠ 92 → (q = (171, 0, 172) ∨ q = (171, 1, 178) ∨ (∃ k : Fin 5, q = (172, (k.val : Int), 173 + (k.val : Int))) ∨ q = (178, 0, 179) ∨ (∃ j : Fin 10, q = (179, (j.val : Int), 180 + 6 * (j.val : Int))) ∨ ∃ (j : Fin 10) (k : Fin 5), q = (180 + 6 * (j.val : Int), (k.val : Int), 181 + 6 * (j.val : Int) + (k.val : Int))) := by decide +kernel
