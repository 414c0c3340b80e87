/-! The class is made: its history, images, all. -/
def nowsL : Nat → List (Nat × Nat)
  | 0 => []
  | n + 1 => nowsL n ++ ([(5, 6)] ++ X6L)
theorem nowsL_len (n : Nat) : (nowsL n).length = 6 * n := by
  induction n with
  | zero => rfl
  | succ n ih =>
    show (nowsL n ++ ([(5, 6)] ++ X6L)).length = _
    rw [List.length_append, ih]
    show 6 * n + 6 = _
    omega
theorem nowsL_tot (n : Nat) : tot (nowsL n) = 34 * n := by
  induction n with
  | zero => rfl
  | succ n ih =>
    show tot (nowsL n ++ ([(5, 6)] ++ X6L)) = _
    rw [tot_app, ih]
    show 34 * n + 34 = _
    omega
theorem X6L_len : X6L.length = 5 := rfl
theorem X6L_tot : tot X6L = 28 := rfl
/-- the history while it is made: i nows stand -/
def HIv (N r : Int) (G0 h0 G h : zH) (i : Nat) : Prop := (∀ a b : Int, a ≤ N → a ≠ r → G a b = G0 a b) ∧ G r 0 = N + 1 ∧ (∀ j : Int, 0 ≤ j → j < i → G (N + 1) j = N + 2 + 6 * j) ∧ (∀ j k : Int, 0 ≤ j → j < i → 0 ≤ k → k < 5 → G (N + 2 + 6 * j) k = N + 3 + 6 * j + k) ∧ (∀ a b : Int, a ≤ N → h a b = h0 a b) ∧ (∀ a b : Int, N < a → a ≤ N + 1 + 6 * i → h a b = 0)
theorem lpX3_init {l : Launch} {A : List (Nat × Nat)} {G0 h0 : zH} {Q : zQt} {r : Int} (hs : zsh (A, G0) r = some (2, 2)) (hl : A.length < 1000) (hQ : ∀ G h, HIv A.length r G0 h0 G h 10 → Q none (A ++ [(102, 10)] ++ nowsL 10, G) h) :
    ∀ (n i : Nat) (G h : zH), i + n = 10 → HIv A.length r G0 h0 G h i → zW zX0 l mX3_init ((A, G0).1.length + zmc mX3_init) (ztot (A, G0) + zms mX3_init) Q 15 [some (zr r), some (zi (i : Int))] [] (A ++ [(102, 10)] ++ nowsL i, G) h := by
  have hs9 := zsh_le hs
  intro n
  induction n with
  | zero =>
    intro i G h hi hv
    have e9 : i = 10 := by omega
    subst e9
    refine z_iload_n dX3_init_15 rfl ?_
    refine z_bipush dX3_init_16 ⟨by decide, by decide⟩ ?_
    refine z_icmp_ge (tgt := 40) dX3_init_18 (by decide) (fun _ => ?_) (fun q => False.elim (by omega))
    refine z_ret (v := none) dX3_init_40 trivial (by show (A ++ [(102, 10)] ++ nowsL 10).length = A.length + 61; simp only [List.length_append, len_1, nowsL_len]) (by show tot (A ++ [(102, 10)] ++ nowsL 10) = tot A + 350; simp only [tot_app, tot_1, nowsL_tot]) rfl ?_
    exact hQ G h hv
  | succ n ih =>
    intro i G h hi hv
    have hN : ((A ++ [(102, 10)] ++ nowsL i).length : Int) + 1 = (A.length : Int) + 2 + 6 * i := by simp only [List.length_append, len_1, nowsL_len]; omega
    have s0 : zsh (A ++ [(102, 10)] ++ nowsL i ++ [(5, 6)], G) r = some (2, 2) := zsh_app (G := G) (zsh_app (G := G) (zsh_app (G := G0) hs))
    have s1 : zsh (A ++ [(102, 10)] ++ nowsL i, G) ((A.length : Int) + 1) = some (102, 10) := zsh_app (G := G) (zsh_last rfl)
    refine z_iload_n dX3_init_15 rfl ?_
    refine z_bipush dX3_init_16 ⟨by decide, by decide⟩ ?_
    refine z_icmp_ge (tgt := 40) dX3_init_18 (by decide) (fun q => False.elim (by omega)) (fun _ => ?_)
    refine z_aload_n dX3_init_21 rfl (by omega) ?_
    refine y_geta (k' := 0) fl_X3_11 rfl dX3_init_22 (zsh_app (G := G) (zsh_app (G := G0) hs)) (by decide) hv.2.1 ?_
    refine z_iload_n dX3_init_25 rfl ?_
    refine z_new zcl_X6 hdf_X6 lc_X3_9 dX3_init_26 (by show (A ++ [(102, 10)] ++ nowsL i).length + 1 ≤ A.length + 61; simp only [List.length_append, len_1, nowsL_len, X6L_len]; omega) (by show tot (A ++ [(102, 10)] ++ nowsL i) + 6 ≤ tot A + 350; simp only [tot_app, tot_1, nowsL_tot, X6L_tot]; omega) (by show (A ++ [(102, 10)] ++ nowsL i).length < 2147483647; simp only [List.length_append, len_1, nowsL_len]; omega) ?_
    dsimp only
    rw [hN]
    refine z_dup dX3_init_29 rfl ?_
    refine z_callIN (T := mX6_init) kX6_init (by omega) (List.mem_of_getElem? (i := 3) rfl) ⟨by decide, by decide⟩ dX3_init_30 (Nat.le_of_ble_eq_true rfl) (by show (A ++ [(102, 10)] ++ nowsL i ++ [(5, 6)]).length + 5 ≤ A.length + 61; simp only [List.length_append, len_1, nowsL_len, X6L_len]; omega) (by show tot (A ++ [(102, 10)] ++ nowsL i ++ [(5, 6)]) + 28 ≤ tot A + 350; simp only [tot_app, tot_1, nowsL_tot, X6L_tot]; omega) (qX6_init (r := (A.length : Int) + 2 + 6 * i) (zsh_last (by rw [hN])) (by simp only [List.length_append, len_1, nowsL_len]; omega) (fun G1 h1 f1 f2 f3 g0 g1 g2 g3 g4 => ?_))
    have hM : ((A ++ [(102, 10)] ++ nowsL i ++ [(5, 6)]).length : Int) = (A.length : Int) + 2 + 6 * i := by rw [List.length_append, len_1]; omega
    rw [hM] at f1 f2 f3 g0 g1 g2 g3 g4
    refine z_aast dX3_init_33 (by decide) (r := (A.length : Int) + 1) (zsh_app (G := G) (zsh_app (G := G) s1)) (by omega) (by omega) (zsh_app (G := G) (zsh_last (by rw [hN]))) ?_
    dsimp only
    refine y_iinc dX3_init_34 (by decide) rfl rfl (by omega) (by omega) lss_2_1 ?_
    refine z_goto (tgt := 15) dX3_init_37 (by decide) ?_
    have eL : A ++ [(102, 10)] ++ nowsL i ++ [(5, 6)] ++ X6L = A ++ [(102, 10)] ++ nowsL (i + 1) := by
      show _ = A ++ [(102, 10)] ++ (nowsL i ++ ([(5, 6)] ++ X6L))
      simp only [List.append_assoc]
    rw [eL]
    refine ih (i + 1) _ _ (by omega) ?_
    obtain ⟨v0, v1, v2, v3, v4, v5⟩ := hv
    refine ⟨fun a b a0 a1 => ?_, ?_, fun j j0 j1 => ?_, fun j k j0 j1 k0 k1 => ?_, fun a b a0 => ?_, fun a b a0 a1 => ?_⟩
    · rw [zup_ne (by omega), f1 a b (by omega) (by omega), znw_ne (by omega), v0 a b a0 a1]
    · rw [zup_ne (by omega), f1 r 0 (by omega) (by omega), znw_ne (by omega), v1]
    · by_cases z : j = i
      · rw [z, zup_same]
      · rw [zup_ne (by omega), f1 _ _ (by omega) (by omega), znw_ne (by omega), v2 j j0 (by omega)]
    · by_cases z : j = i
      · rw [zup_ne (by omega), z]
        rcases (show k = 0 ∨ k = 1 ∨ k = 2 ∨ k = 3 ∨ k = 4 by omega) with rfl | rfl | rfl | rfl | rfl
        · rw [g0]; omega
        · rw [g1]; omega
        · rw [g2]; omega
        · rw [g3]; omega
        · rw [g4]; omega
      · rw [zup_ne (by omega), f1 _ _ (by omega) (by omega), znw_ne (by omega), v3 j k j0 (by omega) k0 k1]
    · rw [f2 a b (by omega) trivial, znw_ne (by omega), v4 a b a0]
    · by_cases z : a ≤ (A.length : Int) + 1 + 6 * i
      · rw [f2 a b (by omega) trivial, znw_ne (by omega), v5 a b a0 z]
      · by_cases y : a = (A.length : Int) + 2 + 6 * i
        · rw [y, f2 _ b (by omega) trivial, znw_at]
        · exact f3 a b (by omega) (by omega)
def X3L : List (Nat × Nat) := [(102, 10)] ++ nowsL 10
theorem qX3_init {l : Launch} {A : List (Nat × Nat)} {G h : zH} {Q : zQt} {r : Int} (hs : zsh (A, G) r = some (2, 2)) (hl : A.length < 1000) (hQ : ∀ G' h', HIv A.length r G h G' h' 10 → Q none (A ++ X3L, G') h') : zC l mX3_init [zr r] (A, G) h Q := by
  have hs9 := zsh_le hs
  refine z_method kX3_init.1 rfl (Nat.le_of_ble_eq_true rfl) (fun hok hh => ?_)
  refine z_aload_n dX3_init_0 rfl (by omega) ?_
  refine z_objInit hs9.1 kobj ml_X3_3 (by decide) (by decide) dX3_init_1 ?_
  refine z_aload_n dX3_init_4 rfl (by omega) ?_
  refine z_bipush dX3_init_5 ⟨by decide, by decide⟩ ?_
  refine z_newq (N := 10) (Or.inl ⟨rfl, rfl, rfl⟩) lc_X3_9 dX3_init_7 rfl (by decide) (by show A.length + 1 ≤ A.length + 61; omega) (by show tot A + 10 ≤ tot A + 350; omega) ?_
  refine y_putFa (k' := 0) ff_X3_11 rfl rfl dX3_init_10 (zsh_app (G := G) hs) (by decide) ?_
  dsimp only
  refine z_iconst dX3_init_13 ⟨by decide, by decide⟩ ?_
  refine z_istore_n dX3_init_14 (by decide) rfl lss_2_1 ?_
  have K := lpX3_init (l := l) (A := A) (G0 := G) (h0 := h) (Q := Q) hs hl (fun G' h' hv => by
    have e : A ++ [(102, 10)] ++ nowsL 10 = A ++ X3L := by unfold X3L; rw [List.append_assoc]
    rw [e]
    exact hQ G' h' hv) 10 0 (zup (znw G (↑A.length + 1)) r 0 (↑A.length + 1)) (znw h (↑A.length + 1)) rfl ⟨fun a b a0 a1 => by rw [zup_ne (by omega), znw_ne (by omega)], by rw [zup_same], fun j j0 j1 => by omega, fun j k j0 j1 => by omega, fun a b a0 => znw_ne (by omega), fun a b a0 a1 => by
      have e : a = (A.length : Int) + 1 := by omega
      rw [e, znw_at]⟩
  have e : A ++ [(102, 10)] ++ nowsL 0 = A ++ [(102, 10)] := by show A ++ [(102, 10)] ++ [] = _; rw [List.append_nil]
  rw [e] at K
  exact K
theorem X3L_len : X3L.length = 61 := by unfold X3L; rw [List.length_append, nowsL_len, len_1]
theorem X3L_tot : tot X3L = 350 := by unfold X3L; rw [tot_app, nowsL_tot, tot_1]
