/-! The constructors. -/
def tot (A : List (Nat × Nat)) : Nat := (A.map (fun q => q.2)).sum
theorem tot_app (A B : List (Nat × Nat)) : tot (A ++ B) = tot A + tot B := by unfold tot; rw [List.map_append, List.sum_append]
theorem tot_1 (a b : Nat) : tot [(a, b)] = b := by unfold tot; simp
theorem len_1 (a : Nat × Nat) : [a].length = 1 := rfl
theorem zsh_app {A B : List (Nat × Nat)} {G G' : zH} {r : Int} {q : Nat × Nat} (h : zsh (A, G) r = some q) : zsh (A ++ B, G') r = some q := by
  obtain ⟨h0, h1, h2⟩ := zsh_spec h
  unfold zsh
  rw [if_pos h0]
  show (A ++ B)[r.toNat - 1]? = some q
  rw [List.getElem?_append_left (List.getElem?_eq_some_iff.mp h1).1]
  exact h1
theorem zsh_g {A : List (Nat × Nat)} {G G' : zH} {r : Int} {q : Nat × Nat} (h : zsh (A, G) r = some q) : zsh (A, G') r = some q := h
theorem zsh_last {A : List (Nat × Nat)} {G : zH} {q : Nat × Nat} {r : Int} (hr : r = (A.length : Int) + 1) : zsh (A ++ [q], G) r = some q := by
  unfold zsh
  rw [if_pos (by omega)]
  show (A ++ [q])[r.toNat - 1]? = some q
  rw [show r.toNat - 1 = A.length by omega]
  simp
theorem zsh_le {A : List (Nat × Nat)} {G : zH} {r : Int} {q : Nat × Nat} (h : zsh (A, G) r = some q) : 0 < r ∧ r ≤ A.length := by
  obtain ⟨h0, h1, h2⟩ := zsh_spec h
  have h3 : r.toNat - 1 < A.length := (List.getElem?_eq_some_iff.mp h1).1
  exact ⟨h0, by omega⟩
theorem znw_ne {h : zH} {r a b : Int} (hn : a ≠ r) : znw h r a b = h a b := by unfold znw; rw [if_neg hn]
theorem znw_at {h : zH} {r b : Int} : znw h r r b = 0 := by unfold znw; rw [if_pos rfl]
theorem hdf_X0 : ∀ k, k < 3 → (zty 0 k = .int ∨ zty 0 k = .boolean ∨ zty 0 k = .long ∨ (∃ n, zty 0 k = .object n) ∨ ∃ t, zty 0 k = .array t) := fun k hk => by
  rcases (show k = 0 ∨ k = 1 ∨ k = 2 by omega) with rfl | rfl | rfl
  · exact Or.inr (Or.inr (Or.inr (Or.inr ⟨_, rfl⟩)))
  · exact Or.inr (Or.inr (Or.inr (Or.inr ⟨_, rfl⟩)))
  · exact Or.inl rfl
theorem hdf_X2 : ∀ k, k < 3 → (zty 1 k = .int ∨ zty 1 k = .boolean ∨ zty 1 k = .long ∨ (∃ n, zty 1 k = .object n) ∨ ∃ t, zty 1 k = .array t) := fun k hk => by
  rcases (show k = 0 ∨ k = 1 ∨ k = 2 by omega) with rfl | rfl | rfl
  · exact Or.inr (Or.inr (Or.inr (Or.inr ⟨_, rfl⟩)))
  · exact Or.inr (Or.inr (Or.inr (Or.inr ⟨_, rfl⟩)))
  · exact Or.inl rfl
theorem hdf_X3 : ∀ k, k < 2 → (zty 2 k = .int ∨ zty 2 k = .boolean ∨ zty 2 k = .long ∨ (∃ n, zty 2 k = .object n) ∨ ∃ t, zty 2 k = .array t) := fun k hk => by
  rcases (show k = 0 ∨ k = 1 by omega) with rfl | rfl
  · exact Or.inr (Or.inr (Or.inr (Or.inr ⟨_, rfl⟩)))
  · exact Or.inl rfl
theorem hdf_X4 : ∀ k, k < 13 → (zty 3 k = .int ∨ zty 3 k = .boolean ∨ zty 3 k = .long ∨ (∃ n, zty 3 k = .object n) ∨ ∃ t, zty 3 k = .array t) := fun k hk => by
  rcases (show k = 0 ∨ k = 1 ∨ k = 2 ∨ k = 3 ∨ k = 4 ∨ k = 5 ∨ k = 6 ∨ k = 7 ∨ k = 8 ∨ k = 9 ∨ k = 10 ∨ k = 11 ∨ k = 12 by omega) with rfl | rfl | rfl | rfl | rfl | rfl | rfl | rfl | rfl | rfl | rfl | rfl | rfl
  · exact Or.inl rfl
  · exact Or.inl rfl
  · exact Or.inl rfl
  · exact Or.inl rfl
  · exact Or.inr (Or.inr (Or.inr (Or.inr ⟨_, rfl⟩)))
  · exact Or.inr (Or.inr (Or.inr (Or.inr ⟨_, rfl⟩)))
  · exact Or.inr (Or.inr (Or.inr (Or.inr ⟨_, rfl⟩)))
  · exact Or.inr (Or.inr (Or.inr (Or.inr ⟨_, rfl⟩)))
  · exact Or.inr (Or.inr (Or.inr (Or.inr ⟨_, rfl⟩)))
  · exact Or.inr (Or.inr (Or.inr (Or.inr ⟨_, rfl⟩)))
  · exact Or.inr (Or.inr (Or.inr (Or.inr ⟨_, rfl⟩)))
  · exact Or.inr (Or.inr (Or.inr (Or.inr ⟨_, rfl⟩)))
  · exact Or.inr (Or.inr (Or.inr (Or.inr ⟨_, rfl⟩)))
theorem hdf_X5 : ∀ k, k < 3 → (zty 4 k = .int ∨ zty 4 k = .boolean ∨ zty 4 k = .long ∨ (∃ n, zty 4 k = .object n) ∨ ∃ t, zty 4 k = .array t) := fun k hk => by
  rcases (show k = 0 ∨ k = 1 ∨ k = 2 by omega) with rfl | rfl | rfl
  · exact Or.inr (Or.inr (Or.inr (Or.inl ⟨_, rfl⟩)))
  · exact Or.inr (Or.inr (Or.inr (Or.inl ⟨_, rfl⟩)))
  · exact Or.inr (Or.inl rfl)
theorem hdf_X6 : ∀ k, k < 6 → (zty 5 k = .int ∨ zty 5 k = .boolean ∨ zty 5 k = .long ∨ (∃ n, zty 5 k = .object n) ∨ ∃ t, zty 5 k = .array t) := fun k hk => by
  rcases (show k = 0 ∨ k = 1 ∨ k = 2 ∨ k = 3 ∨ k = 4 ∨ k = 5 by omega) with rfl | rfl | rfl | rfl | rfl | rfl
  · exact Or.inr (Or.inr (Or.inr (Or.inr ⟨_, rfl⟩)))
  · exact Or.inr (Or.inr (Or.inr (Or.inr ⟨_, rfl⟩)))
  · exact Or.inr (Or.inr (Or.inr (Or.inr ⟨_, rfl⟩)))
  · exact Or.inr (Or.inr (Or.inr (Or.inr ⟨_, rfl⟩)))
  · exact Or.inr (Or.inr (Or.inr (Or.inr ⟨_, rfl⟩)))
  · exact Or.inl rfl
theorem hdf_X7 : ∀ k, k < 7 → (zty 6 k = .int ∨ zty 6 k = .boolean ∨ zty 6 k = .long ∨ (∃ n, zty 6 k = .object n) ∨ ∃ t, zty 6 k = .array t) := fun k hk => by
  rcases (show k = 0 ∨ k = 1 ∨ k = 2 ∨ k = 3 ∨ k = 4 ∨ k = 5 ∨ k = 6 by omega) with rfl | rfl | rfl | rfl | rfl | rfl | rfl
  · exact Or.inr (Or.inr (Or.inr (Or.inr ⟨_, rfl⟩)))
  · exact Or.inl rfl
  · exact Or.inl rfl
  · exact Or.inl rfl
  · exact Or.inl rfl
  · exact Or.inl rfl
  · exact Or.inr (Or.inl rfl)
theorem hdf_X8 : ∀ k, k < 4 → (zty 7 k = .int ∨ zty 7 k = .boolean ∨ zty 7 k = .long ∨ (∃ n, zty 7 k = .object n) ∨ ∃ t, zty 7 k = .array t) := fun k hk => by
  rcases (show k = 0 ∨ k = 1 ∨ k = 2 ∨ k = 3 by omega) with rfl | rfl | rfl | rfl
  · exact Or.inr (Or.inr (Or.inr (Or.inr ⟨_, rfl⟩)))
  · exact Or.inr (Or.inr (Or.inr (Or.inr ⟨_, rfl⟩)))
  · exact Or.inl rfl
  · exact Or.inl rfl
theorem hdf_X9 : ∀ k, k < 10 → (zty 8 k = .int ∨ zty 8 k = .boolean ∨ zty 8 k = .long ∨ (∃ n, zty 8 k = .object n) ∨ ∃ t, zty 8 k = .array t) := fun k hk => by
  rcases (show k = 0 ∨ k = 1 ∨ k = 2 ∨ k = 3 ∨ k = 4 ∨ k = 5 ∨ k = 6 ∨ k = 7 ∨ k = 8 ∨ k = 9 by omega) with rfl | rfl | rfl | rfl | rfl | rfl | rfl | rfl | rfl | rfl
  · exact Or.inr (Or.inr (Or.inr (Or.inl ⟨_, rfl⟩)))
  · exact Or.inr (Or.inr (Or.inr (Or.inl ⟨_, rfl⟩)))
  · exact Or.inr (Or.inr (Or.inr (Or.inl ⟨_, rfl⟩)))
  · exact Or.inr (Or.inr (Or.inr (Or.inl ⟨_, rfl⟩)))
  · exact Or.inr (Or.inr (Or.inr (Or.inl ⟨_, rfl⟩)))
  · exact Or.inr (Or.inr (Or.inr (Or.inr ⟨_, rfl⟩)))
  · exact Or.inr (Or.inr (Or.inr (Or.inl ⟨_, rfl⟩)))
  · exact Or.inr (Or.inr (Or.inr (Or.inl ⟨_, rfl⟩)))
  · exact Or.inr (Or.inr (Or.inr (Or.inl ⟨_, rfl⟩)))
  · exact Or.inr (Or.inr (Or.inl rfl))
theorem hdf_X10 : ∀ k, k < 34 → (zty 9 k = .int ∨ zty 9 k = .boolean ∨ zty 9 k = .long ∨ (∃ n, zty 9 k = .object n) ∨ ∃ t, zty 9 k = .array t) := fun k hk => by
  rcases (show k = 0 ∨ k = 1 ∨ k = 2 ∨ k = 3 ∨ k = 4 ∨ k = 5 ∨ k = 6 ∨ k = 7 ∨ k = 8 ∨ k = 9 ∨ k = 10 ∨ k = 11 ∨ k = 12 ∨ k = 13 ∨ k = 14 ∨ k = 15 ∨ k = 16 ∨ k = 17 ∨ k = 18 ∨ k = 19 ∨ k = 20 ∨ k = 21 ∨ k = 22 ∨ k = 23 ∨ k = 24 ∨ k = 25 ∨ k = 26 ∨ k = 27 ∨ k = 28 ∨ k = 29 ∨ k = 30 ∨ k = 31 ∨ k = 32 ∨ k = 33 by omega) with rfl | rfl | rfl | rfl | rfl | rfl | rfl | rfl | rfl | rfl | rfl | rfl | rfl | rfl | rfl | rfl | rfl | rfl | rfl | rfl | rfl | rfl | rfl | rfl | rfl | rfl | rfl | rfl | rfl | rfl | rfl | rfl | rfl | rfl
  · exact Or.inl rfl
  · exact Or.inl rfl
  · exact Or.inr (Or.inr (Or.inr (Or.inr ⟨_, rfl⟩)))
  · exact Or.inl rfl
  · exact Or.inr (Or.inr (Or.inr (Or.inr ⟨_, rfl⟩)))
  · exact Or.inl rfl
  · exact Or.inr (Or.inr (Or.inr (Or.inr ⟨_, rfl⟩)))
  · exact Or.inr (Or.inr (Or.inr (Or.inr ⟨_, rfl⟩)))
  · exact Or.inr (Or.inr (Or.inr (Or.inr ⟨_, rfl⟩)))
  · exact Or.inl rfl
  · exact Or.inr (Or.inr (Or.inr (Or.inr ⟨_, rfl⟩)))
  · exact Or.inr (Or.inr (Or.inr (Or.inr ⟨_, rfl⟩)))
  · exact Or.inr (Or.inr (Or.inr (Or.inr ⟨_, rfl⟩)))
  · exact Or.inl rfl
  · exact Or.inr (Or.inr (Or.inl rfl))
  · exact Or.inr (Or.inr (Or.inr (Or.inr ⟨_, rfl⟩)))
  · exact Or.inl rfl
  · exact Or.inl rfl
  · exact Or.inl rfl
  · exact Or.inl rfl
  · exact Or.inl rfl
  · exact Or.inl rfl
  · exact Or.inl rfl
  · exact Or.inr (Or.inr (Or.inr (Or.inr ⟨_, rfl⟩)))
  · exact Or.inl rfl
  · exact Or.inr (Or.inr (Or.inr (Or.inr ⟨_, rfl⟩)))
  · exact Or.inr (Or.inr (Or.inr (Or.inr ⟨_, rfl⟩)))
  · exact Or.inr (Or.inr (Or.inr (Or.inr ⟨_, rfl⟩)))
  · exact Or.inl rfl
  · exact Or.inr (Or.inr (Or.inr (Or.inr ⟨_, rfl⟩)))
  · exact Or.inr (Or.inr (Or.inr (Or.inr ⟨_, rfl⟩)))
  · exact Or.inl rfl
  · exact Or.inl rfl
  · exact Or.inr (Or.inr (Or.inr (Or.inr ⟨_, rfl⟩)))
def X7L : List (Nat × Nat) := [(100, 150)]
theorem qX7_init {l : Launch} {A : List (Nat × Nat)} {G h : zH} {Q : zQt} {r : Int} (hs : zsh (A, G) r = some (6, 7)) (hl : A.length < 100000) (hQ : ∀ G' h', (∀ a b : Int, a ≤ A.length → a ≠ r → G' a b = G a b) → (∀ a b : Int, a ≤ A.length → True → h' a b = h a b) → (∀ a b : Int, (A.length : Int) < a → a ≤ A.length + 1 → h' a b = 0) → G' r 0 = (A.length : Int) + 1 → Q none (A ++ X7L, G') h') : zC l mX7_init [zr r] (A, G) h Q := by
  have hs9 := zsh_le hs
  refine z_method kX7_init.1 rfl (Nat.le_of_ble_eq_true rfl) (fun hok hh => ?_)
  refine z_aload_n dX7_init_0 rfl (by omega) ?_
  refine z_objInit hs9.1 kobj ml_X7_3 (by decide) (by decide) dX7_init_1 ?_
  refine z_aload_n dX7_init_4 rfl (by omega) ?_
  refine z_sipush dX7_init_5 ⟨by decide, by decide⟩ ?_
  refine z_newi (N := 150) dX7_init_8 karrI rfl (by decide) (by show (A).length + 1 ≤ A.length + 1; (try simp only [List.length_append, len_1]); omega) (by show tot (A) + 150 ≤ tot A + 150; (try simp only [tot_app, tot_1]); omega) (by show (A).length < 2147483647; (try simp only [List.length_append, len_1]); omega) ?_
  refine y_putFa (k' := 0) ff_X7_9 rfl rfl dX7_init_10 (zsh_app (G := G) hs) (by decide) ?_
  dsimp only
  refine z_ret (v := none) dX7_init_13 trivial (by show (A ++ [(100, 150)]).length = A.length + 1; simp only [List.length_append, len_1]) (by show tot (A ++ [(100, 150)]) = tot A + 150; simp only [tot_app, tot_1]) rfl ?_
  have eL : A ++ [(100, 150)] = A ++ X7L := by simp [X7L]
  show Q none (_, _) _
  rw [eL]
  refine hQ _ _ (fun a b a0 a1 => ?_) (fun a b a0 a1 => ?_) (fun a b a0 a1 => ?_) ?_
  · rw [zup_ne (by omega), znw_ne (by omega)]
  · rw [znw_ne (by omega)]
  · rcases (show a = (A.length : Int) + 1 by omega) with rfl
    · rw [znw_at]
  · rw [zup_same]
def X4L : List (Nat × Nat) := [(100, 9), (100, 9), (100, 9), (100, 6), (100, 6), (100, 6), (100, 6), (100, 6), (100, 4)]
theorem qX4_init {l : Launch} {A : List (Nat × Nat)} {G h : zH} {Q : zQt} {r : Int} (hs : zsh (A, G) r = some (3, 13)) (hl : A.length < 100000) (hQ : ∀ G' h', (∀ a b : Int, a ≤ A.length → a ≠ r → G' a b = G a b) → (∀ a b : Int, a ≤ A.length → ¬ (a = r ∧ (b = 0)) → h' a b = h a b) → (∀ a b : Int, (A.length : Int) < a → a ≤ A.length + 9 → h' a b = 0) → G' r 4 = (A.length : Int) + 1 → G' r 5 = (A.length : Int) + 2 → G' r 6 = (A.length : Int) + 3 → G' r 7 = (A.length : Int) + 4 → G' r 8 = (A.length : Int) + 5 → G' r 9 = (A.length : Int) + 6 → G' r 10 = (A.length : Int) + 7 → G' r 11 = (A.length : Int) + 8 → G' r 12 = (A.length : Int) + 9 → h' r 0 = 4 → Q none (A ++ X4L, G') h') : zC l mX4_init [zr r] (A, G) h Q := by
  have hs9 := zsh_le hs
  refine z_method kX4_init.1 rfl (Nat.le_of_ble_eq_true rfl) (fun hok hh => ?_)
  refine z_aload_n dX4_init_0 rfl (by omega) ?_
  refine z_objInit hs9.1 kobj ml_X4_3 (by decide) (by decide) dX4_init_1 ?_
  refine z_aload_n dX4_init_4 rfl (by omega) ?_
  refine z_iconst dX4_init_5 ⟨by decide, by decide⟩ ?_
  refine y_puti (k' := 0) fl_X4_9 rfl dX4_init_6 hs (by decide) ?_
  refine z_aload_n dX4_init_9 rfl (by omega) ?_
  refine z_bipush dX4_init_10 ⟨by decide, by decide⟩ ?_
  refine z_newi (N := 9) dX4_init_12 karrI rfl (by decide) (by show (A).length + 1 ≤ A.length + 9; (try simp only [List.length_append, len_1]); omega) (by show tot (A) + 9 ≤ tot A + 61; (try simp only [tot_app, tot_1]); omega) (by show (A).length < 2147483647; (try simp only [List.length_append, len_1]); omega) ?_
  refine y_putFa (k' := 4) ff_X4_15 rfl rfl dX4_init_14 (zsh_app (G := G) hs) (by decide) ?_
  dsimp only
  refine z_aload_n dX4_init_17 rfl (by omega) ?_
  refine z_bipush dX4_init_18 ⟨by decide, by decide⟩ ?_
  refine z_newi (N := 9) dX4_init_20 karrI rfl (by decide) (by show (A ++ [(100, 9)]).length + 1 ≤ A.length + 9; (try simp only [List.length_append, len_1]); omega) (by show tot (A ++ [(100, 9)]) + 9 ≤ tot A + 61; (try simp only [tot_app, tot_1]); omega) (by show (A ++ [(100, 9)]).length < 2147483647; (try simp only [List.length_append, len_1]); omega) ?_
  refine y_putFa (k' := 5) ff_X4_19 rfl rfl dX4_init_22 (zsh_app (G := G) (zsh_app (G := G) hs)) (by decide) ?_
  dsimp only
  refine z_aload_n dX4_init_25 rfl (by omega) ?_
  refine z_bipush dX4_init_26 ⟨by decide, by decide⟩ ?_
  refine z_newi (N := 9) dX4_init_28 karrI rfl (by decide) (by show (A ++ [(100, 9)] ++ [(100, 9)]).length + 1 ≤ A.length + 9; (try simp only [List.length_append, len_1]); omega) (by show tot (A ++ [(100, 9)] ++ [(100, 9)]) + 9 ≤ tot A + 61; (try simp only [tot_app, tot_1]); omega) (by show (A ++ [(100, 9)] ++ [(100, 9)]).length < 2147483647; (try simp only [List.length_append, len_1]); omega) ?_
  refine y_putFa (k' := 6) ff_X4_22 rfl rfl dX4_init_30 (zsh_app (G := G) (zsh_app (G := G) (zsh_app (G := G) hs))) (by decide) ?_
  dsimp only
  refine z_aload_n dX4_init_33 rfl (by omega) ?_
  refine z_bipush dX4_init_34 ⟨by decide, by decide⟩ ?_
  refine z_newi (N := 6) dX4_init_36 karrI rfl (by decide) (by show (A ++ [(100, 9)] ++ [(100, 9)] ++ [(100, 9)]).length + 1 ≤ A.length + 9; (try simp only [List.length_append, len_1]); omega) (by show tot (A ++ [(100, 9)] ++ [(100, 9)] ++ [(100, 9)]) + 6 ≤ tot A + 61; (try simp only [tot_app, tot_1]); omega) (by show (A ++ [(100, 9)] ++ [(100, 9)] ++ [(100, 9)]).length < 2147483647; (try simp only [List.length_append, len_1]); omega) ?_
  refine y_putFa (k' := 7) ff_X4_25 rfl rfl dX4_init_38 (zsh_app (G := G) (zsh_app (G := G) (zsh_app (G := G) (zsh_app (G := G) hs)))) (by decide) ?_
  dsimp only
  refine z_aload_n dX4_init_41 rfl (by omega) ?_
  refine z_bipush dX4_init_42 ⟨by decide, by decide⟩ ?_
  refine z_newi (N := 6) dX4_init_44 karrI rfl (by decide) (by show (A ++ [(100, 9)] ++ [(100, 9)] ++ [(100, 9)] ++ [(100, 6)]).length + 1 ≤ A.length + 9; (try simp only [List.length_append, len_1]); omega) (by show tot (A ++ [(100, 9)] ++ [(100, 9)] ++ [(100, 9)] ++ [(100, 6)]) + 6 ≤ tot A + 61; (try simp only [tot_app, tot_1]); omega) (by show (A ++ [(100, 9)] ++ [(100, 9)] ++ [(100, 9)] ++ [(100, 6)]).length < 2147483647; (try simp only [List.length_append, len_1]); omega) ?_
  refine y_putFa (k' := 8) ff_X4_28 rfl rfl dX4_init_46 (zsh_app (G := G) (zsh_app (G := G) (zsh_app (G := G) (zsh_app (G := G) (zsh_app (G := G) hs))))) (by decide) ?_
  dsimp only
  refine z_aload_n dX4_init_49 rfl (by omega) ?_
  refine z_bipush dX4_init_50 ⟨by decide, by decide⟩ ?_
  refine z_newi (N := 6) dX4_init_52 karrI rfl (by decide) (by show (A ++ [(100, 9)] ++ [(100, 9)] ++ [(100, 9)] ++ [(100, 6)] ++ [(100, 6)]).length + 1 ≤ A.length + 9; (try simp only [List.length_append, len_1]); omega) (by show tot (A ++ [(100, 9)] ++ [(100, 9)] ++ [(100, 9)] ++ [(100, 6)] ++ [(100, 6)]) + 6 ≤ tot A + 61; (try simp only [tot_app, tot_1]); omega) (by show (A ++ [(100, 9)] ++ [(100, 9)] ++ [(100, 9)] ++ [(100, 6)] ++ [(100, 6)]).length < 2147483647; (try simp only [List.length_append, len_1]); omega) ?_
  refine y_putFa (k' := 9) ff_X4_31 rfl rfl dX4_init_54 (zsh_app (G := G) (zsh_app (G := G) (zsh_app (G := G) (zsh_app (G := G) (zsh_app (G := G) (zsh_app (G := G) hs)))))) (by decide) ?_
  dsimp only
  refine z_aload_n dX4_init_57 rfl (by omega) ?_
  refine z_bipush dX4_init_58 ⟨by decide, by decide⟩ ?_
  refine z_newi (N := 6) dX4_init_60 karrI rfl (by decide) (by show (A ++ [(100, 9)] ++ [(100, 9)] ++ [(100, 9)] ++ [(100, 6)] ++ [(100, 6)] ++ [(100, 6)]).length + 1 ≤ A.length + 9; (try simp only [List.length_append, len_1]); omega) (by show tot (A ++ [(100, 9)] ++ [(100, 9)] ++ [(100, 9)] ++ [(100, 6)] ++ [(100, 6)] ++ [(100, 6)]) + 6 ≤ tot A + 61; (try simp only [tot_app, tot_1]); omega) (by show (A ++ [(100, 9)] ++ [(100, 9)] ++ [(100, 9)] ++ [(100, 6)] ++ [(100, 6)] ++ [(100, 6)]).length < 2147483647; (try simp only [List.length_append, len_1]); omega) ?_
  refine y_putFa (k' := 10) ff_X4_34 rfl rfl dX4_init_62 (zsh_app (G := G) (zsh_app (G := G) (zsh_app (G := G) (zsh_app (G := G) (zsh_app (G := G) (zsh_app (G := G) (zsh_app (G := G) hs))))))) (by decide) ?_
  dsimp only
  refine z_aload_n dX4_init_65 rfl (by omega) ?_
  refine z_bipush dX4_init_66 ⟨by decide, by decide⟩ ?_
  refine z_newi (N := 6) dX4_init_68 karrI rfl (by decide) (by show (A ++ [(100, 9)] ++ [(100, 9)] ++ [(100, 9)] ++ [(100, 6)] ++ [(100, 6)] ++ [(100, 6)] ++ [(100, 6)]).length + 1 ≤ A.length + 9; (try simp only [List.length_append, len_1]); omega) (by show tot (A ++ [(100, 9)] ++ [(100, 9)] ++ [(100, 9)] ++ [(100, 6)] ++ [(100, 6)] ++ [(100, 6)] ++ [(100, 6)]) + 6 ≤ tot A + 61; (try simp only [tot_app, tot_1]); omega) (by show (A ++ [(100, 9)] ++ [(100, 9)] ++ [(100, 9)] ++ [(100, 6)] ++ [(100, 6)] ++ [(100, 6)] ++ [(100, 6)]).length < 2147483647; (try simp only [List.length_append, len_1]); omega) ?_
  refine y_putFa (k' := 11) ff_X4_37 rfl rfl dX4_init_70 (zsh_app (G := G) (zsh_app (G := G) (zsh_app (G := G) (zsh_app (G := G) (zsh_app (G := G) (zsh_app (G := G) (zsh_app (G := G) (zsh_app (G := G) hs)))))))) (by decide) ?_
  dsimp only
  refine z_aload_n dX4_init_73 rfl (by omega) ?_
  refine z_iconst dX4_init_74 ⟨by decide, by decide⟩ ?_
  refine z_newi (N := 4) dX4_init_75 karrI rfl (by decide) (by show (A ++ [(100, 9)] ++ [(100, 9)] ++ [(100, 9)] ++ [(100, 6)] ++ [(100, 6)] ++ [(100, 6)] ++ [(100, 6)] ++ [(100, 6)]).length + 1 ≤ A.length + 9; (try simp only [List.length_append, len_1]); omega) (by show tot (A ++ [(100, 9)] ++ [(100, 9)] ++ [(100, 9)] ++ [(100, 6)] ++ [(100, 6)] ++ [(100, 6)] ++ [(100, 6)] ++ [(100, 6)]) + 4 ≤ tot A + 61; (try simp only [tot_app, tot_1]); omega) (by show (A ++ [(100, 9)] ++ [(100, 9)] ++ [(100, 9)] ++ [(100, 6)] ++ [(100, 6)] ++ [(100, 6)] ++ [(100, 6)] ++ [(100, 6)]).length < 2147483647; (try simp only [List.length_append, len_1]); omega) ?_
  refine y_putFa (k' := 12) ff_X4_40 rfl rfl dX4_init_77 (zsh_app (G := G) (zsh_app (G := G) (zsh_app (G := G) (zsh_app (G := G) (zsh_app (G := G) (zsh_app (G := G) (zsh_app (G := G) (zsh_app (G := G) (zsh_app (G := G) hs))))))))) (by decide) ?_
  dsimp only
  refine z_ret (v := none) dX4_init_80 trivial (by show (A ++ [(100, 9)] ++ [(100, 9)] ++ [(100, 9)] ++ [(100, 6)] ++ [(100, 6)] ++ [(100, 6)] ++ [(100, 6)] ++ [(100, 6)] ++ [(100, 4)]).length = A.length + 9; simp only [List.length_append, len_1]) (by show tot (A ++ [(100, 9)] ++ [(100, 9)] ++ [(100, 9)] ++ [(100, 6)] ++ [(100, 6)] ++ [(100, 6)] ++ [(100, 6)] ++ [(100, 6)] ++ [(100, 4)]) = tot A + 61; simp only [tot_app, tot_1]) rfl ?_
  have eL : A ++ [(100, 9)] ++ [(100, 9)] ++ [(100, 9)] ++ [(100, 6)] ++ [(100, 6)] ++ [(100, 6)] ++ [(100, 6)] ++ [(100, 6)] ++ [(100, 4)] = A ++ X4L := by simp [X4L]
  have l1 : ((A ++ [(100, 9)]).length : Int) + 1 = A.length + 2 := by simp only [List.length_append, len_1]; omega
  have l2 : ((A ++ [(100, 9)] ++ [(100, 9)]).length : Int) + 1 = A.length + 3 := by simp only [List.length_append, len_1]; omega
  have l3 : ((A ++ [(100, 9)] ++ [(100, 9)] ++ [(100, 9)]).length : Int) + 1 = A.length + 4 := by simp only [List.length_append, len_1]; omega
  have l4 : ((A ++ [(100, 9)] ++ [(100, 9)] ++ [(100, 9)] ++ [(100, 6)]).length : Int) + 1 = A.length + 5 := by simp only [List.length_append, len_1]; omega
  have l5 : ((A ++ [(100, 9)] ++ [(100, 9)] ++ [(100, 9)] ++ [(100, 6)] ++ [(100, 6)]).length : Int) + 1 = A.length + 6 := by simp only [List.length_append, len_1]; omega
  have l6 : ((A ++ [(100, 9)] ++ [(100, 9)] ++ [(100, 9)] ++ [(100, 6)] ++ [(100, 6)] ++ [(100, 6)]).length : Int) + 1 = A.length + 7 := by simp only [List.length_append, len_1]; omega
  have l7 : ((A ++ [(100, 9)] ++ [(100, 9)] ++ [(100, 9)] ++ [(100, 6)] ++ [(100, 6)] ++ [(100, 6)] ++ [(100, 6)]).length : Int) + 1 = A.length + 8 := by simp only [List.length_append, len_1]; omega
  have l8 : ((A ++ [(100, 9)] ++ [(100, 9)] ++ [(100, 9)] ++ [(100, 6)] ++ [(100, 6)] ++ [(100, 6)] ++ [(100, 6)] ++ [(100, 6)]).length : Int) + 1 = A.length + 9 := by simp only [List.length_append, len_1]; omega
  show Q none (_, _) _
  simp only [l1, l2, l3, l4, l5, l6, l7, l8]
  rw [eL]
  refine hQ _ _ (fun a b a0 a1 => ?_) (fun a b a0 a1 => ?_) (fun a b a0 a1 => ?_) ?_ ?_ ?_ ?_ ?_ ?_ ?_ ?_ ?_ ?_
  · rw [zup_ne (by omega), znw_ne (by omega), zup_ne (by omega), znw_ne (by omega), zup_ne (by omega), znw_ne (by omega), zup_ne (by omega), znw_ne (by omega), zup_ne (by omega), znw_ne (by omega), zup_ne (by omega), znw_ne (by omega), zup_ne (by omega), znw_ne (by omega), zup_ne (by omega), znw_ne (by omega), zup_ne (by omega), znw_ne (by omega)]
  · rw [znw_ne (by omega), znw_ne (by omega), znw_ne (by omega), znw_ne (by omega), znw_ne (by omega), znw_ne (by omega), znw_ne (by omega), znw_ne (by omega), znw_ne (by omega), zup_ne (by omega)]
  · rcases (show a = (A.length : Int) + 1 ∨ a = (A.length : Int) + 2 ∨ a = (A.length : Int) + 3 ∨ a = (A.length : Int) + 4 ∨ a = (A.length : Int) + 5 ∨ a = (A.length : Int) + 6 ∨ a = (A.length : Int) + 7 ∨ a = (A.length : Int) + 8 ∨ a = (A.length : Int) + 9 by omega) with rfl | rfl | rfl | rfl | rfl | rfl | rfl | rfl | rfl
    · rw [znw_ne (by omega), znw_ne (by omega), znw_ne (by omega), znw_ne (by omega), znw_ne (by omega), znw_ne (by omega), znw_ne (by omega), znw_ne (by omega), znw_at]
    · rw [znw_ne (by omega), znw_ne (by omega), znw_ne (by omega), znw_ne (by omega), znw_ne (by omega), znw_ne (by omega), znw_ne (by omega), znw_at]
    · rw [znw_ne (by omega), znw_ne (by omega), znw_ne (by omega), znw_ne (by omega), znw_ne (by omega), znw_ne (by omega), znw_at]
    · rw [znw_ne (by omega), znw_ne (by omega), znw_ne (by omega), znw_ne (by omega), znw_ne (by omega), znw_at]
    · rw [znw_ne (by omega), znw_ne (by omega), znw_ne (by omega), znw_ne (by omega), znw_at]
    · rw [znw_ne (by omega), znw_ne (by omega), znw_ne (by omega), znw_at]
    · rw [znw_ne (by omega), znw_ne (by omega), znw_at]
    · rw [znw_ne (by omega), znw_at]
    · rw [znw_at]
  · rw [zup_ne (by omega), znw_ne (by omega), zup_ne (by omega), znw_ne (by omega), zup_ne (by omega), znw_ne (by omega), zup_ne (by omega), znw_ne (by omega), zup_ne (by omega), znw_ne (by omega), zup_ne (by omega), znw_ne (by omega), zup_ne (by omega), znw_ne (by omega), zup_ne (by omega), znw_ne (by omega), zup_same]
  · rw [zup_ne (by omega), znw_ne (by omega), zup_ne (by omega), znw_ne (by omega), zup_ne (by omega), znw_ne (by omega), zup_ne (by omega), znw_ne (by omega), zup_ne (by omega), znw_ne (by omega), zup_ne (by omega), znw_ne (by omega), zup_ne (by omega), znw_ne (by omega), zup_same]
  · rw [zup_ne (by omega), znw_ne (by omega), zup_ne (by omega), znw_ne (by omega), zup_ne (by omega), znw_ne (by omega), zup_ne (by omega), znw_ne (by omega), zup_ne (by omega), znw_ne (by omega), zup_ne (by omega), znw_ne (by omega), zup_same]
  · rw [zup_ne (by omega), znw_ne (by omega), zup_ne (by omega), znw_ne (by omega), zup_ne (by omega), znw_ne (by omega), zup_ne (by omega), znw_ne (by omega), zup_ne (by omega), znw_ne (by omega), zup_same]
  · rw [zup_ne (by omega), znw_ne (by omega), zup_ne (by omega), znw_ne (by omega), zup_ne (by omega), znw_ne (by omega), zup_ne (by omega), znw_ne (by omega), zup_same]
  · rw [zup_ne (by omega), znw_ne (by omega), zup_ne (by omega), znw_ne (by omega), zup_ne (by omega), znw_ne (by omega), zup_same]
  · rw [zup_ne (by omega), znw_ne (by omega), zup_ne (by omega), znw_ne (by omega), zup_same]
  · rw [zup_ne (by omega), znw_ne (by omega), zup_same]
  · rw [zup_same]
  · rw [znw_ne (by omega), znw_ne (by omega), znw_ne (by omega), znw_ne (by omega), znw_ne (by omega), znw_ne (by omega), znw_ne (by omega), znw_ne (by omega), znw_ne (by omega), zup_same]
def X6L : List (Nat × Nat) := [(100, 6), (100, 6), (100, 6), (100, 6), (100, 4)]
theorem qX6_init {l : Launch} {A : List (Nat × Nat)} {G h : zH} {Q : zQt} {r : Int} (hs : zsh (A, G) r = some (5, 6)) (hl : A.length < 100000) (hQ : ∀ G' h', (∀ a b : Int, a ≤ A.length → a ≠ r → G' a b = G a b) → (∀ a b : Int, a ≤ A.length → True → h' a b = h a b) → (∀ a b : Int, (A.length : Int) < a → a ≤ A.length + 5 → h' a b = 0) → G' r 0 = (A.length : Int) + 1 → G' r 1 = (A.length : Int) + 2 → G' r 2 = (A.length : Int) + 3 → G' r 3 = (A.length : Int) + 4 → G' r 4 = (A.length : Int) + 5 → Q none (A ++ X6L, G') h') : zC l mX6_init [zr r] (A, G) h Q := by
  have hs9 := zsh_le hs
  refine z_method kX6_init.1 rfl (Nat.le_of_ble_eq_true rfl) (fun hok hh => ?_)
  refine z_aload_n dX6_init_0 rfl (by omega) ?_
  refine z_objInit hs9.1 kobj ml_X6_3 (by decide) (by decide) dX6_init_1 ?_
  refine z_aload_n dX6_init_4 rfl (by omega) ?_
  refine z_bipush dX6_init_5 ⟨by decide, by decide⟩ ?_
  refine z_newi (N := 6) dX6_init_7 karrI rfl (by decide) (by show (A).length + 1 ≤ A.length + 5; (try simp only [List.length_append, len_1]); omega) (by show tot (A) + 6 ≤ tot A + 28; (try simp only [tot_app, tot_1]); omega) (by show (A).length < 2147483647; (try simp only [List.length_append, len_1]); omega) ?_
  refine y_putFa (k' := 0) ff_X6_9 rfl rfl dX6_init_9 (zsh_app (G := G) hs) (by decide) ?_
  dsimp only
  refine z_aload_n dX6_init_12 rfl (by omega) ?_
  refine z_bipush dX6_init_13 ⟨by decide, by decide⟩ ?_
  refine z_newi (N := 6) dX6_init_15 karrI rfl (by decide) (by show (A ++ [(100, 6)]).length + 1 ≤ A.length + 5; (try simp only [List.length_append, len_1]); omega) (by show tot (A ++ [(100, 6)]) + 6 ≤ tot A + 28; (try simp only [tot_app, tot_1]); omega) (by show (A ++ [(100, 6)]).length < 2147483647; (try simp only [List.length_append, len_1]); omega) ?_
  refine y_putFa (k' := 1) ff_X6_15 rfl rfl dX6_init_17 (zsh_app (G := G) (zsh_app (G := G) hs)) (by decide) ?_
  dsimp only
  refine z_aload_n dX6_init_20 rfl (by omega) ?_
  refine z_bipush dX6_init_21 ⟨by decide, by decide⟩ ?_
  refine z_newi (N := 6) dX6_init_23 karrI rfl (by decide) (by show (A ++ [(100, 6)] ++ [(100, 6)]).length + 1 ≤ A.length + 5; (try simp only [List.length_append, len_1]); omega) (by show tot (A ++ [(100, 6)] ++ [(100, 6)]) + 6 ≤ tot A + 28; (try simp only [tot_app, tot_1]); omega) (by show (A ++ [(100, 6)] ++ [(100, 6)]).length < 2147483647; (try simp only [List.length_append, len_1]); omega) ?_
  refine y_putFa (k' := 2) ff_X6_18 rfl rfl dX6_init_25 (zsh_app (G := G) (zsh_app (G := G) (zsh_app (G := G) hs))) (by decide) ?_
  dsimp only
  refine z_aload_n dX6_init_28 rfl (by omega) ?_
  refine z_bipush dX6_init_29 ⟨by decide, by decide⟩ ?_
  refine z_newi (N := 6) dX6_init_31 karrI rfl (by decide) (by show (A ++ [(100, 6)] ++ [(100, 6)] ++ [(100, 6)]).length + 1 ≤ A.length + 5; (try simp only [List.length_append, len_1]); omega) (by show tot (A ++ [(100, 6)] ++ [(100, 6)] ++ [(100, 6)]) + 6 ≤ tot A + 28; (try simp only [tot_app, tot_1]); omega) (by show (A ++ [(100, 6)] ++ [(100, 6)] ++ [(100, 6)]).length < 2147483647; (try simp only [List.length_append, len_1]); omega) ?_
  refine y_putFa (k' := 3) ff_X6_21 rfl rfl dX6_init_33 (zsh_app (G := G) (zsh_app (G := G) (zsh_app (G := G) (zsh_app (G := G) hs)))) (by decide) ?_
  dsimp only
  refine z_aload_n dX6_init_36 rfl (by omega) ?_
  refine z_iconst dX6_init_37 ⟨by decide, by decide⟩ ?_
  refine z_newi (N := 4) dX6_init_38 karrI rfl (by decide) (by show (A ++ [(100, 6)] ++ [(100, 6)] ++ [(100, 6)] ++ [(100, 6)]).length + 1 ≤ A.length + 5; (try simp only [List.length_append, len_1]); omega) (by show tot (A ++ [(100, 6)] ++ [(100, 6)] ++ [(100, 6)] ++ [(100, 6)]) + 4 ≤ tot A + 28; (try simp only [tot_app, tot_1]); omega) (by show (A ++ [(100, 6)] ++ [(100, 6)] ++ [(100, 6)] ++ [(100, 6)]).length < 2147483647; (try simp only [List.length_append, len_1]); omega) ?_
  refine y_putFa (k' := 4) ff_X6_24 rfl rfl dX6_init_40 (zsh_app (G := G) (zsh_app (G := G) (zsh_app (G := G) (zsh_app (G := G) (zsh_app (G := G) hs))))) (by decide) ?_
  dsimp only
  refine z_ret (v := none) dX6_init_43 trivial (by show (A ++ [(100, 6)] ++ [(100, 6)] ++ [(100, 6)] ++ [(100, 6)] ++ [(100, 4)]).length = A.length + 5; simp only [List.length_append, len_1]) (by show tot (A ++ [(100, 6)] ++ [(100, 6)] ++ [(100, 6)] ++ [(100, 6)] ++ [(100, 4)]) = tot A + 28; simp only [tot_app, tot_1]) rfl ?_
  have eL : A ++ [(100, 6)] ++ [(100, 6)] ++ [(100, 6)] ++ [(100, 6)] ++ [(100, 4)] = A ++ X6L := by simp [X6L]
  have l1 : ((A ++ [(100, 6)]).length : Int) + 1 = A.length + 2 := by simp only [List.length_append, len_1]; omega
  have l2 : ((A ++ [(100, 6)] ++ [(100, 6)]).length : Int) + 1 = A.length + 3 := by simp only [List.length_append, len_1]; omega
  have l3 : ((A ++ [(100, 6)] ++ [(100, 6)] ++ [(100, 6)]).length : Int) + 1 = A.length + 4 := by simp only [List.length_append, len_1]; omega
  have l4 : ((A ++ [(100, 6)] ++ [(100, 6)] ++ [(100, 6)] ++ [(100, 6)]).length : Int) + 1 = A.length + 5 := by simp only [List.length_append, len_1]; omega
  show Q none (_, _) _
  simp only [l1, l2, l3, l4]
  rw [eL]
  refine hQ _ _ (fun a b a0 a1 => ?_) (fun a b a0 a1 => ?_) (fun a b a0 a1 => ?_) ?_ ?_ ?_ ?_ ?_
  · rw [zup_ne (by omega), znw_ne (by omega), zup_ne (by omega), znw_ne (by omega), zup_ne (by omega), znw_ne (by omega), zup_ne (by omega), znw_ne (by omega), zup_ne (by omega), znw_ne (by omega)]
  · rw [znw_ne (by omega), znw_ne (by omega), znw_ne (by omega), znw_ne (by omega), znw_ne (by omega)]
  · rcases (show a = (A.length : Int) + 1 ∨ a = (A.length : Int) + 2 ∨ a = (A.length : Int) + 3 ∨ a = (A.length : Int) + 4 ∨ a = (A.length : Int) + 5 by omega) with rfl | rfl | rfl | rfl | rfl
    · rw [znw_ne (by omega), znw_ne (by omega), znw_ne (by omega), znw_ne (by omega), znw_at]
    · rw [znw_ne (by omega), znw_ne (by omega), znw_ne (by omega), znw_at]
    · rw [znw_ne (by omega), znw_ne (by omega), znw_at]
    · rw [znw_ne (by omega), znw_at]
    · rw [znw_at]
  · rw [zup_ne (by omega), znw_ne (by omega), zup_ne (by omega), znw_ne (by omega), zup_ne (by omega), znw_ne (by omega), zup_ne (by omega), znw_ne (by omega), zup_same]
  · rw [zup_ne (by omega), znw_ne (by omega), zup_ne (by omega), znw_ne (by omega), zup_ne (by omega), znw_ne (by omega), zup_same]
  · rw [zup_ne (by omega), znw_ne (by omega), zup_ne (by omega), znw_ne (by omega), zup_same]
  · rw [zup_ne (by omega), znw_ne (by omega), zup_same]
  · rw [zup_same]
def X2L : List (Nat × Nat) := [(100, 4), (100, 4)]
theorem qX2_init {l : Launch} {A : List (Nat × Nat)} {G h : zH} {Q : zQt} {r : Int} (hs : zsh (A, G) r = some (1, 3)) (hl : A.length < 100000) (hQ : ∀ G' h', (∀ a b : Int, a ≤ A.length → a ≠ r → G' a b = G a b) → (∀ a b : Int, a ≤ A.length → True → h' a b = h a b) → (∀ a b : Int, (A.length : Int) < a → a ≤ A.length + 2 → h' a b = 0) → G' r 0 = (A.length : Int) + 1 → G' r 1 = (A.length : Int) + 2 → Q none (A ++ X2L, G') h') : zC l mX2_init [zr r] (A, G) h Q := by
  have hs9 := zsh_le hs
  refine z_method kX2_init.1 rfl (Nat.le_of_ble_eq_true rfl) (fun hok hh => ?_)
  refine z_aload_n dX2_init_0 rfl (by omega) ?_
  refine z_objInit hs9.1 kobj ml_X2_3 (by decide) (by decide) dX2_init_1 ?_
  refine z_aload_n dX2_init_4 rfl (by omega) ?_
  refine z_iconst dX2_init_5 ⟨by decide, by decide⟩ ?_
  refine z_newi (N := 4) dX2_init_6 karrI rfl (by decide) (by show (A).length + 1 ≤ A.length + 2; (try simp only [List.length_append, len_1]); omega) (by show tot (A) + 4 ≤ tot A + 8; (try simp only [tot_app, tot_1]); omega) (by show (A).length < 2147483647; (try simp only [List.length_append, len_1]); omega) ?_
  refine y_putFa (k' := 0) ff_X2_9 rfl rfl dX2_init_8 (zsh_app (G := G) hs) (by decide) ?_
  dsimp only
  refine z_aload_n dX2_init_11 rfl (by omega) ?_
  refine z_iconst dX2_init_12 ⟨by decide, by decide⟩ ?_
  refine z_newi (N := 4) dX2_init_13 karrI rfl (by decide) (by show (A ++ [(100, 4)]).length + 1 ≤ A.length + 2; (try simp only [List.length_append, len_1]); omega) (by show tot (A ++ [(100, 4)]) + 4 ≤ tot A + 8; (try simp only [tot_app, tot_1]); omega) (by show (A ++ [(100, 4)]).length < 2147483647; (try simp only [List.length_append, len_1]); omega) ?_
  refine y_putFa (k' := 1) ff_X2_15 rfl rfl dX2_init_15 (zsh_app (G := G) (zsh_app (G := G) hs)) (by decide) ?_
  dsimp only
  refine z_ret (v := none) dX2_init_18 trivial (by show (A ++ [(100, 4)] ++ [(100, 4)]).length = A.length + 2; simp only [List.length_append, len_1]) (by show tot (A ++ [(100, 4)] ++ [(100, 4)]) = tot A + 8; simp only [tot_app, tot_1]) rfl ?_
  have eL : A ++ [(100, 4)] ++ [(100, 4)] = A ++ X2L := by simp [X2L]
  have l1 : ((A ++ [(100, 4)]).length : Int) + 1 = A.length + 2 := by simp only [List.length_append, len_1]; omega
  show Q none (_, _) _
  simp only [l1]
  rw [eL]
  refine hQ _ _ (fun a b a0 a1 => ?_) (fun a b a0 a1 => ?_) (fun a b a0 a1 => ?_) ?_ ?_
  · rw [zup_ne (by omega), znw_ne (by omega), zup_ne (by omega), znw_ne (by omega)]
  · rw [znw_ne (by omega), znw_ne (by omega)]
  · rcases (show a = (A.length : Int) + 1 ∨ a = (A.length : Int) + 2 by omega) with rfl | rfl
    · rw [znw_ne (by omega), znw_at]
    · rw [znw_at]
  · rw [zup_ne (by omega), znw_ne (by omega), zup_same]
  · rw [zup_same]
def X8L : List (Nat × Nat) := [(100, 8), (100, 8)]
theorem qX8_init {l : Launch} {A : List (Nat × Nat)} {G h : zH} {Q : zQt} {r : Int} (hs : zsh (A, G) r = some (7, 4)) (hl : A.length < 100000) (hQ : ∀ G' h', (∀ a b : Int, a ≤ A.length → a ≠ r → G' a b = G a b) → (∀ a b : Int, a ≤ A.length → True → h' a b = h a b) → (∀ a b : Int, (A.length : Int) < a → a ≤ A.length + 2 → h' a b = 0) → G' r 0 = (A.length : Int) + 1 → G' r 1 = (A.length : Int) + 2 → Q none (A ++ X8L, G') h') : zC l mX8_init [zr r] (A, G) h Q := by
  have hs9 := zsh_le hs
  refine z_method kX8_init.1 rfl (Nat.le_of_ble_eq_true rfl) (fun hok hh => ?_)
  refine z_aload_n dX8_init_0 rfl (by omega) ?_
  refine z_objInit hs9.1 kobj ml_X8_3 (by decide) (by decide) dX8_init_1 ?_
  refine z_aload_n dX8_init_4 rfl (by omega) ?_
  refine z_bipush dX8_init_5 ⟨by decide, by decide⟩ ?_
  refine z_newi (N := 8) dX8_init_7 karrI rfl (by decide) (by show (A).length + 1 ≤ A.length + 2; (try simp only [List.length_append, len_1]); omega) (by show tot (A) + 8 ≤ tot A + 16; (try simp only [tot_app, tot_1]); omega) (by show (A).length < 2147483647; (try simp only [List.length_append, len_1]); omega) ?_
  refine y_putFa (k' := 0) ff_X8_9 rfl rfl dX8_init_9 (zsh_app (G := G) hs) (by decide) ?_
  dsimp only
  refine z_aload_n dX8_init_12 rfl (by omega) ?_
  refine z_bipush dX8_init_13 ⟨by decide, by decide⟩ ?_
  refine z_newi (N := 8) dX8_init_15 karrI rfl (by decide) (by show (A ++ [(100, 8)]).length + 1 ≤ A.length + 2; (try simp only [List.length_append, len_1]); omega) (by show tot (A ++ [(100, 8)]) + 8 ≤ tot A + 16; (try simp only [tot_app, tot_1]); omega) (by show (A ++ [(100, 8)]).length < 2147483647; (try simp only [List.length_append, len_1]); omega) ?_
  refine y_putFa (k' := 1) ff_X8_15 rfl rfl dX8_init_17 (zsh_app (G := G) (zsh_app (G := G) hs)) (by decide) ?_
  dsimp only
  refine z_ret (v := none) dX8_init_20 trivial (by show (A ++ [(100, 8)] ++ [(100, 8)]).length = A.length + 2; simp only [List.length_append, len_1]) (by show tot (A ++ [(100, 8)] ++ [(100, 8)]) = tot A + 16; simp only [tot_app, tot_1]) rfl ?_
  have eL : A ++ [(100, 8)] ++ [(100, 8)] = A ++ X8L := by simp [X8L]
  have l1 : ((A ++ [(100, 8)]).length : Int) + 1 = A.length + 2 := by simp only [List.length_append, len_1]; omega
  show Q none (_, _) _
  simp only [l1]
  rw [eL]
  refine hQ _ _ (fun a b a0 a1 => ?_) (fun a b a0 a1 => ?_) (fun a b a0 a1 => ?_) ?_ ?_
  · rw [zup_ne (by omega), znw_ne (by omega), zup_ne (by omega), znw_ne (by omega)]
  · rw [znw_ne (by omega), znw_ne (by omega)]
  · rcases (show a = (A.length : Int) + 1 ∨ a = (A.length : Int) + 2 by omega) with rfl | rfl
    · rw [znw_ne (by omega), znw_at]
    · rw [znw_at]
  · rw [zup_ne (by omega), znw_ne (by omega), zup_same]
  · rw [zup_same]
def X0L : List (Nat × Nat) := [(100, 64), (100, 6)]
theorem qX0_init {l : Launch} {A : List (Nat × Nat)} {G h : zH} {Q : zQt} {r : Int} (hs : zsh (A, G) r = some (0, 3)) (hl : A.length < 100000) (hQ : ∀ G' h', (∀ a b : Int, a ≤ A.length → a ≠ r → G' a b = G a b) → (∀ a b : Int, a ≤ A.length → True → h' a b = h a b) → (∀ a b : Int, (A.length : Int) < a → a ≤ A.length + 2 → h' a b = 0) → G' r 0 = (A.length : Int) + 1 → G' r 1 = (A.length : Int) + 2 → Q none (A ++ X0L, G') h') : zC l mX0_init [zr r] (A, G) h Q := by
  have hs9 := zsh_le hs
  refine z_method kX0_init.1 rfl (Nat.le_of_ble_eq_true rfl) (fun hok hh => ?_)
  refine z_aload_n dX0_init_0 rfl (by omega) ?_
  refine z_objInit hs9.1 kobj ml_X0_3 (by decide) (by decide) dX0_init_1 ?_
  refine z_aload_n dX0_init_4 rfl (by omega) ?_
  refine z_bipush dX0_init_5 ⟨by decide, by decide⟩ ?_
  refine z_newi (N := 64) dX0_init_7 karrI rfl (by decide) (by show (A).length + 1 ≤ A.length + 2; (try simp only [List.length_append, len_1]); omega) (by show tot (A) + 64 ≤ tot A + 70; (try simp only [tot_app, tot_1]); omega) (by show (A).length < 2147483647; (try simp only [List.length_append, len_1]); omega) ?_
  refine y_putFa (k' := 0) ff_X0_9 rfl rfl dX0_init_9 (zsh_app (G := G) hs) (by decide) ?_
  dsimp only
  refine z_aload_n dX0_init_12 rfl (by omega) ?_
  refine z_bipush dX0_init_13 ⟨by decide, by decide⟩ ?_
  refine z_newi (N := 6) dX0_init_15 karrI rfl (by decide) (by show (A ++ [(100, 64)]).length + 1 ≤ A.length + 2; (try simp only [List.length_append, len_1]); omega) (by show tot (A ++ [(100, 64)]) + 6 ≤ tot A + 70; (try simp only [tot_app, tot_1]); omega) (by show (A ++ [(100, 64)]).length < 2147483647; (try simp only [List.length_append, len_1]); omega) ?_
  refine y_putFa (k' := 1) ff_X0_15 rfl rfl dX0_init_17 (zsh_app (G := G) (zsh_app (G := G) hs)) (by decide) ?_
  dsimp only
  refine z_ret (v := none) dX0_init_20 trivial (by show (A ++ [(100, 64)] ++ [(100, 6)]).length = A.length + 2; simp only [List.length_append, len_1]) (by show tot (A ++ [(100, 64)] ++ [(100, 6)]) = tot A + 70; simp only [tot_app, tot_1]) rfl ?_
  have eL : A ++ [(100, 64)] ++ [(100, 6)] = A ++ X0L := by simp [X0L]
  have l1 : ((A ++ [(100, 64)]).length : Int) + 1 = A.length + 2 := by simp only [List.length_append, len_1]; omega
  show Q none (_, _) _
  simp only [l1]
  rw [eL]
  refine hQ _ _ (fun a b a0 a1 => ?_) (fun a b a0 a1 => ?_) (fun a b a0 a1 => ?_) ?_ ?_
  · rw [zup_ne (by omega), znw_ne (by omega), zup_ne (by omega), znw_ne (by omega)]
  · rw [znw_ne (by omega), znw_ne (by omega)]
  · rcases (show a = (A.length : Int) + 1 ∨ a = (A.length : Int) + 2 by omega) with rfl | rfl
    · rw [znw_ne (by omega), znw_at]
    · rw [znw_at]
  · rw [zup_ne (by omega), znw_ne (by omega), zup_same]
  · rw [zup_same]
