/-! The whole class is made. -/
theorem SHL_len : SHL.length = 256 := by decide +kernel
theorem bl (n : Nat) (h : n ≤ 256) : (SHL.take n).length = n := by rw [List.length_take, SHL_len]; omega
theorem SG_st {n n' M m : Int} {G h G' h' : zH} (S : SG n m G h) (e1 : n' = n + 1) (e2 : n' ≤ M) (n1 : 1 ≤ n) (fG : ∀ a b : Int, a ≤ n' → a ≠ n' → G' a b = znw G n' a b) (fh : ∀ a b : Int, a < n' → h' a b = znw h n' a b) (fn : ∀ b, h' n' b = if (n' = 4 ∨ n' = 14) ∧ b = 0 then 4 else 0) (fz : ∀ a b : Int, n' < a → a ≤ M → h' a b = 0) (f14 : M < 14 ∨ 14 ≤ n') (f4 : M < 4 ∨ 4 ≤ n') (nw : ∀ q ∈ STAT, n < q.1 → q.1 ≤ M → q.1 ≠ 92 → G' q.1 q.2.1 = q.2.2) (h31 : n < 31 → 31 ≤ M → ∀ j : Int, 0 ≤ j → j < 10 → G' 31 j = 32 + 6 * j) : SG M m G' h' := by
  subst e1
  obtain ⟨K, hK⟩ : ∃ K, M = n + 1 + K := ⟨M - (n + 1), by omega⟩
  subst hK
  exact SG_step S n1 (by omega) fG (fun a b a0 => fh a b (by omega)) fn fz f14 f4 nw h31
theorem tt_1 : tot (SHL.take 1) = 10 := by decide +kernel
theorem tt_2 : tot (SHL.take 2) = 17 := by decide +kernel
theorem tt_3 : tot (SHL.take 3) = 167 := by decide +kernel
theorem tt_4 : tot (SHL.take 4) = 180 := by decide +kernel
theorem tt_13 : tot (SHL.take 13) = 241 := by decide +kernel
theorem tt_14 : tot (SHL.take 14) = 254 := by decide +kernel
theorem tt_23 : tot (SHL.take 23) = 315 := by decide +kernel
theorem tt_24 : tot (SHL.take 24) = 321 := by decide +kernel
theorem tt_29 : tot (SHL.take 29) = 349 := by decide +kernel
theorem tt_30 : tot (SHL.take 30) = 351 := by decide +kernel
theorem tt_91 : tot (SHL.take 91) = 701 := by decide +kernel
theorem tt_92 : tot (SHL.take 92) = 703 := by decide +kernel
theorem tt_93 : tot (SHL.take 93) = 706 := by decide +kernel
theorem tt_95 : tot (SHL.take 95) = 714 := by decide +kernel
theorem tt_96 : tot (SHL.take 96) = 718 := by decide +kernel
theorem tt_98 : tot (SHL.take 98) = 734 := by decide +kernel
theorem tt_99 : tot (SHL.take 99) = 737 := by decide +kernel
theorem tt_101 : tot (SHL.take 101) = 807 := by decide +kernel
theorem tt_102 : tot (SHL.take 102) = 810 := by decide +kernel
theorem tt_170 : tot (SHL.take 170) = 1196 := by decide +kernel
theorem tt_171 : tot (SHL.take 171) = 1199 := by decide +kernel
theorem tt_239 : tot (SHL.take 239) = 1585 := by decide +kernel
theorem ap_1 : SHL.take 1 ++ [(6, 7)] = SHL.take 2 := by decide +kernel
theorem ap_2 : SHL.take 2 ++ X7L = SHL.take 3 := by decide +kernel
theorem ap_3 : SHL.take 3 ++ [(3, 13)] = SHL.take 4 := by decide +kernel
theorem ap_4 : SHL.take 4 ++ X4L = SHL.take 13 := by decide +kernel
theorem ap_13 : SHL.take 13 ++ [(3, 13)] = SHL.take 14 := by decide +kernel
theorem ap_14 : SHL.take 14 ++ X4L = SHL.take 23 := by decide +kernel
theorem ap_23 : SHL.take 23 ++ [(5, 6)] = SHL.take 24 := by decide +kernel
theorem ap_24 : SHL.take 24 ++ X6L = SHL.take 29 := by decide +kernel
theorem ap_29 : SHL.take 29 ++ [(2, 2)] = SHL.take 30 := by decide +kernel
theorem ap_30 : SHL.take 30 ++ X3L = SHL.take 91 := by decide +kernel
theorem ap_91 : SHL.take 91 ++ [(103, 2)] = SHL.take 92 := by decide +kernel
theorem ap_92 : SHL.take 92 ++ [(1, 3)] = SHL.take 93 := by decide +kernel
theorem ap_93 : SHL.take 93 ++ X2L = SHL.take 95 := by decide +kernel
theorem ap_95 : SHL.take 95 ++ [(7, 4)] = SHL.take 96 := by decide +kernel
theorem ap_96 : SHL.take 96 ++ X8L = SHL.take 98 := by decide +kernel
theorem ap_98 : SHL.take 98 ++ [(0, 3)] = SHL.take 99 := by decide +kernel
theorem ap_99 : SHL.take 99 ++ X0L = SHL.take 101 := by decide +kernel
theorem ap_101 : SHL.take 101 ++ [(4, 3)] = SHL.take 102 := by decide +kernel
theorem ap_102 : SHL.take 102 ++ X5L = SHL.take 170 := by decide +kernel
theorem ap_170 : SHL.take 170 ++ [(4, 3)] = SHL.take 171 := by decide +kernel
theorem ap_171 : SHL.take 171 ++ X5L = SHL.take 239 := by decide +kernel
theorem zs_2_2 {G : zH} : zsh (SHL.take 2, G) 2 = some (6, 7) := by
  unfold zsh
  rw [if_pos (by decide)]
  show (SHL.take 2)[1]? = some (6, 7)
  decide +kernel
theorem zs_4_4 {G : zH} : zsh (SHL.take 4, G) 4 = some (3, 13) := by
  unfold zsh
  rw [if_pos (by decide)]
  show (SHL.take 4)[3]? = some (3, 13)
  decide +kernel
theorem zs_14_14 {G : zH} : zsh (SHL.take 14, G) 14 = some (3, 13) := by
  unfold zsh
  rw [if_pos (by decide)]
  show (SHL.take 14)[13]? = some (3, 13)
  decide +kernel
theorem zs_24_24 {G : zH} : zsh (SHL.take 24, G) 24 = some (5, 6) := by
  unfold zsh
  rw [if_pos (by decide)]
  show (SHL.take 24)[23]? = some (5, 6)
  decide +kernel
theorem zs_30_30 {G : zH} : zsh (SHL.take 30, G) 30 = some (2, 2) := by
  unfold zsh
  rw [if_pos (by decide)]
  show (SHL.take 30)[29]? = some (2, 2)
  decide +kernel
theorem zs_93_93 {G : zH} : zsh (SHL.take 93, G) 93 = some (1, 3) := by
  unfold zsh
  rw [if_pos (by decide)]
  show (SHL.take 93)[92]? = some (1, 3)
  decide +kernel
theorem zs_96_96 {G : zH} : zsh (SHL.take 96, G) 96 = some (7, 4) := by
  unfold zsh
  rw [if_pos (by decide)]
  show (SHL.take 96)[95]? = some (7, 4)
  decide +kernel
theorem zs_99_99 {G : zH} : zsh (SHL.take 99, G) 99 = some (0, 3) := by
  unfold zsh
  rw [if_pos (by decide)]
  show (SHL.take 99)[98]? = some (0, 3)
  decide +kernel
theorem zs_102_102 {G : zH} : zsh (SHL.take 102, G) 102 = some (4, 3) := by
  unfold zsh
  rw [if_pos (by decide)]
  show (SHL.take 102)[101]? = some (4, 3)
  decide +kernel
theorem zs_171_171 {G : zH} : zsh (SHL.take 171, G) 171 = some (4, 3) := by
  unfold zsh
  rw [if_pos (by decide)]
  show (SHL.take 171)[170]? = some (4, 3)
  decide +kernel
theorem zs_1_1 {G : zH} : zsh (SHL.take 1, G) 1 = some (8, 10) := by
  unfold zsh
  rw [if_pos (by decide)]
  show (SHL.take 1)[0]? = some (8, 10)
  decide +kernel
theorem zs_3_1 {G : zH} : zsh (SHL.take 3, G) 1 = some (8, 10) := by
  unfold zsh
  rw [if_pos (by decide)]
  show (SHL.take 3)[0]? = some (8, 10)
  decide +kernel
theorem zs_13_1 {G : zH} : zsh (SHL.take 13, G) 1 = some (8, 10) := by
  unfold zsh
  rw [if_pos (by decide)]
  show (SHL.take 13)[0]? = some (8, 10)
  decide +kernel
theorem zs_23_1 {G : zH} : zsh (SHL.take 23, G) 1 = some (8, 10) := by
  unfold zsh
  rw [if_pos (by decide)]
  show (SHL.take 23)[0]? = some (8, 10)
  decide +kernel
theorem zs_29_1 {G : zH} : zsh (SHL.take 29, G) 1 = some (8, 10) := by
  unfold zsh
  rw [if_pos (by decide)]
  show (SHL.take 29)[0]? = some (8, 10)
  decide +kernel
theorem zs_91_1 {G : zH} : zsh (SHL.take 91, G) 1 = some (8, 10) := by
  unfold zsh
  rw [if_pos (by decide)]
  show (SHL.take 91)[0]? = some (8, 10)
  decide +kernel
theorem zs_92_1 {G : zH} : zsh (SHL.take 92, G) 1 = some (8, 10) := by
  unfold zsh
  rw [if_pos (by decide)]
  show (SHL.take 92)[0]? = some (8, 10)
  decide +kernel
theorem zs_95_1 {G : zH} : zsh (SHL.take 95, G) 1 = some (8, 10) := by
  unfold zsh
  rw [if_pos (by decide)]
  show (SHL.take 95)[0]? = some (8, 10)
  decide +kernel
theorem zs_98_1 {G : zH} : zsh (SHL.take 98, G) 1 = some (8, 10) := by
  unfold zsh
  rw [if_pos (by decide)]
  show (SHL.take 98)[0]? = some (8, 10)
  decide +kernel
theorem zs_101_1 {G : zH} : zsh (SHL.take 101, G) 1 = some (8, 10) := by
  unfold zsh
  rw [if_pos (by decide)]
  show (SHL.take 101)[0]? = some (8, 10)
  decide +kernel
theorem zs_102_1 {G : zH} : zsh (SHL.take 102, G) 1 = some (8, 10) := by
  unfold zsh
  rw [if_pos (by decide)]
  show (SHL.take 102)[0]? = some (8, 10)
  decide +kernel
theorem zs_170_1 {G : zH} : zsh (SHL.take 170, G) 1 = some (8, 10) := by
  unfold zsh
  rw [if_pos (by decide)]
  show (SHL.take 170)[0]? = some (8, 10)
  decide +kernel
theorem zs_171_1 {G : zH} : zsh (SHL.take 171, G) 1 = some (8, 10) := by
  unfold zsh
  rw [if_pos (by decide)]
  show (SHL.take 171)[0]? = some (8, 10)
  decide +kernel
theorem zs_239_1 {G : zH} : zsh (SHL.take 239, G) 1 = some (8, 10) := by
  unfold zsh
  rw [if_pos (by decide)]
  show (SHL.take 239)[0]? = some (8, 10)
  decide +kernel
theorem zs_92_92 {G : zH} : zsh (SHL.take 92, G) 92 = some (103, 2) := by
  unfold zsh
  rw [if_pos (by decide)]
  show (SHL.take 92)[91]? = some (103, 2)
  decide +kernel
theorem zs_101_92 {G : zH} : zsh (SHL.take 101, G) 92 = some (103, 2) := by
  unfold zsh
  rw [if_pos (by decide)]
  show (SHL.take 101)[91]? = some (103, 2)
  decide +kernel
theorem zs_102_92 {G : zH} : zsh (SHL.take 102, G) 92 = some (103, 2) := by
  unfold zsh
  rw [if_pos (by decide)]
  show (SHL.take 102)[91]? = some (103, 2)
  decide +kernel
theorem zs_170_92 {G : zH} : zsh (SHL.take 170, G) 92 = some (103, 2) := by
  unfold zsh
  rw [if_pos (by decide)]
  show (SHL.take 170)[91]? = some (103, 2)
  decide +kernel
theorem zs_171_92 {G : zH} : zsh (SHL.take 171, G) 92 = some (103, 2) := by
  unfold zsh
  rw [if_pos (by decide)]
  show (SHL.take 171)[91]? = some (103, 2)
  decide +kernel
theorem zs_239_92 {G : zH} : zsh (SHL.take 239, G) 92 = some (103, 2) := by
  unfold zsh
  rw [if_pos (by decide)]
  show (SHL.take 239)[91]? = some (103, 2)
  decide +kernel
theorem zs_170_102 {G : zH} : zsh (SHL.take 170, G) 102 = some (4, 3) := by
  unfold zsh
  rw [if_pos (by decide)]
  show (SHL.take 170)[101]? = some (4, 3)
  decide +kernel
theorem zs_239_171 {G : zH} : zsh (SHL.take 239, G) 171 = some (4, 3) := by
  unfold zsh
  rw [if_pos (by decide)]
  show (SHL.take 239)[170]? = some (4, 3)
  decide +kernel
theorem ONE_0 : ∀ q ∈ ONE, 0 ≤ q.2.1 := by decide +kernel
set_option maxHeartbeats 4000000 in
theorem qX9_init {l : Launch} {G h : zH} {Q : zQt} (hh1 : ∀ b, h 1 b = 0) (hQ : ∀ G' h', SG 239 9 G' h' → G' 92 0 = 102 → G' 92 1 = 171 → Q none (SHL.take 239, G') h') : zC l mX9_init [zr 1] (SHL.take 1, G) h Q := by
  have c0 : SG 1 0 G h := ⟨fun q hq q0 q1 q2 => by omega, fun q hq q0 => by have := ONE_0 q hq; omega, fun z => by omega, fun a b a0 a1 => by
    have e : a = 1 := by omega
    rw [e, hh1 b, if_neg (fun z => absurd z.1 (by decide))]⟩
  refine z_method kX9_init.1 rfl (Nat.le_of_ble_eq_true rfl) (fun hok hh => ?_)
  refine z_aload_n dX9_init_0 rfl (by omega) ?_
  refine z_objInit (by decide) kobj ml_X9_1 (by decide) (by decide) dX9_init_1 ?_
  refine z_aload_n dX9_init_4 rfl (by omega) ?_
  refine z_new zcl_X7 hdf_X7 lc_X9_7 dX9_init_5 (by show (SHL.take 1).length + 1 ≤ 1 + 238; rw [bl 1 (by decide)]; decide) (by show tot (SHL.take 1) + 7 ≤ 10 + 1575; rw [tt_1]; decide) (by show (SHL.take 1).length < 2147483647; rw [bl 1 (by decide)]; decide) ?_
  dsimp only
  rw [show ((SHL.take 1).length : Int) + 1 = 2 by rw [bl 1 (by decide)]; decide, ap_1]
  refine z_dup dX9_init_8 rfl ?_
  refine z_callIN (T := mX7_init) kX7_init (by omega) (List.mem_of_getElem? (i := 0) rfl) ⟨by decide, by decide⟩ dX9_init_9 (Nat.le_of_ble_eq_true rfl) (by show (SHL.take 2).length + 1 ≤ 1 + 238; rw [bl 2 (by decide)]; decide) (by show tot (SHL.take 2) + 150 ≤ 10 + 1575; rw [tt_2]; decide) (qX7_init (r := 2) zs_2_2 (by rw [bl 2 (by decide)]; decide) (fun Ga1 ha1 f1 f2 f3 g0 => ?_))
  rw [ap_2]
  rw [show ((SHL.take 2).length : Int) = 2 by rw [bl 2 (by decide)]; decide] at f1 f2 f3 g0
  have d1 : SG 3 0 Ga1 ha1 := SG_st (n := 1) (n' := 2) c0 (by decide) (by decide) (by decide) (fun a b a0 a1 => f1 a b a0 a1) (fun a b a0 => f2 a b (by omega) trivial) (fun b => by rw [f2 2 b (by decide) trivial, znw_at, if_neg (fun z => absurd z.1 (by decide))]) (fun a b a0 a1 => f3 a b (by omega) (by omega)) (by decide) (by decide) (fun q hq q0 q1 q2 => by rw [ss_2 q hq q0 q1 q2]; show Ga1 2 0 = 3; rw [g0]; decide) (fun y z => by omega)
  refine y_putFo (k' := 0) ff_X9_10 rfl rfl dX9_init_12 zs_3_1 (by decide) ?_
  dsimp only
  have c1 : SG 3 1 (zup Ga1 1 0 2) ha1 := SG_put (m := 0) d1 (by decide) (by decide +kernel) (by decide)
  generalize zup Ga1 1 0 2 = Gb1 at c1 ⊢
  clear d1
  refine z_aload_n dX9_init_15 rfl (by omega) ?_
  refine z_new zcl_X4 hdf_X4 lc_X9_16 dX9_init_16 (by show (SHL.take 3).length + 1 ≤ 1 + 238; rw [bl 3 (by decide)]; decide) (by show tot (SHL.take 3) + 13 ≤ 10 + 1575; rw [tt_3]; decide) (by show (SHL.take 3).length < 2147483647; rw [bl 3 (by decide)]; decide) ?_
  dsimp only
  rw [show ((SHL.take 3).length : Int) + 1 = 4 by rw [bl 3 (by decide)]; decide, ap_3]
  refine z_dup dX9_init_19 rfl ?_
  refine z_callIN (T := mX4_init) kX4_init (by omega) (List.mem_of_getElem? (i := 1) rfl) ⟨by decide, by decide⟩ dX9_init_20 (Nat.le_of_ble_eq_true rfl) (by show (SHL.take 4).length + 9 ≤ 1 + 238; rw [bl 4 (by decide)]; decide) (by show tot (SHL.take 4) + 61 ≤ 10 + 1575; rw [tt_4]; decide) (qX4_init (r := 4) zs_4_4 (by rw [bl 4 (by decide)]; decide) (fun Ga2 ha2 f1 f2 f3 g0 g1 g2 g3 g4 g5 g6 g7 g8 g9 => ?_))
  rw [ap_4]
  rw [show ((SHL.take 4).length : Int) = 4 by rw [bl 4 (by decide)]; decide] at f1 f2 f3 g0 g1 g2 g3 g4 g5 g6 g7 g8
  have d2 : SG 13 1 Ga2 ha2 := SG_st (n := 3) (n' := 4) c1 (by decide) (by decide) (by decide) (fun a b a0 a1 => f1 a b a0 a1) (fun a b a0 => f2 a b (by omega) (by omega)) (fun b => by
    by_cases z : b = 0
    · rw [z, g9, if_pos (by decide)]
    · rw [f2 4 b (by decide) (fun w => z w.2), znw_at, if_neg (fun w => z w.2)]) (fun a b a0 a1 => f3 a b (by omega) (by omega)) (by decide) (by decide) (fun q hq q0 q1 q2 => by
    obtain ⟨k, ek⟩ := ss_4 q hq q0 q1 q2
    rw [ek]
    have hk := k.isLt
    rcases (show k.val = 0 ∨ k.val = 1 ∨ k.val = 2 ∨ k.val = 3 ∨ k.val = 4 ∨ k.val = 5 ∨ k.val = 6 ∨ k.val = 7 ∨ k.val = 8 by omega) with z | z | z | z | z | z | z | z | z
    · rw [z]; show Ga2 4 4 = 5; rw [g0]; decide
    · rw [z]; show Ga2 4 5 = 6; rw [g1]; decide
    · rw [z]; show Ga2 4 6 = 7; rw [g2]; decide
    · rw [z]; show Ga2 4 7 = 8; rw [g3]; decide
    · rw [z]; show Ga2 4 8 = 9; rw [g4]; decide
    · rw [z]; show Ga2 4 9 = 10; rw [g5]; decide
    · rw [z]; show Ga2 4 10 = 11; rw [g6]; decide
    · rw [z]; show Ga2 4 11 = 12; rw [g7]; decide
    · rw [z]; show Ga2 4 12 = 13; rw [g8]; decide) (fun y z => by omega)
  refine y_puto (k' := 1) fl_X9_19 rfl dX9_init_23 zs_13_1 (by decide) ?_
  dsimp only
  have c2 : SG 13 2 (zup Ga2 1 1 4) ha2 := SG_put (m := 1) d2 (by decide) (by decide +kernel) (by decide)
  generalize zup Ga2 1 1 4 = Gb2 at c2 ⊢
  clear d2
  refine z_aload_n dX9_init_26 rfl (by omega) ?_
  refine z_new zcl_X4 hdf_X4 lc_X9_16 dX9_init_27 (by show (SHL.take 13).length + 1 ≤ 1 + 238; rw [bl 13 (by decide)]; decide) (by show tot (SHL.take 13) + 13 ≤ 10 + 1575; rw [tt_13]; decide) (by show (SHL.take 13).length < 2147483647; rw [bl 13 (by decide)]; decide) ?_
  dsimp only
  rw [show ((SHL.take 13).length : Int) + 1 = 14 by rw [bl 13 (by decide)]; decide, ap_13]
  refine z_dup dX9_init_30 rfl ?_
  refine z_callIN (T := mX4_init) kX4_init (by omega) (List.mem_of_getElem? (i := 1) rfl) ⟨by decide, by decide⟩ dX9_init_31 (Nat.le_of_ble_eq_true rfl) (by show (SHL.take 14).length + 9 ≤ 1 + 238; rw [bl 14 (by decide)]; decide) (by show tot (SHL.take 14) + 61 ≤ 10 + 1575; rw [tt_14]; decide) (qX4_init (r := 14) zs_14_14 (by rw [bl 14 (by decide)]; decide) (fun Ga3 ha3 f1 f2 f3 g0 g1 g2 g3 g4 g5 g6 g7 g8 g9 => ?_))
  rw [ap_14]
  rw [show ((SHL.take 14).length : Int) = 14 by rw [bl 14 (by decide)]; decide] at f1 f2 f3 g0 g1 g2 g3 g4 g5 g6 g7 g8
  have d3 : SG 23 2 Ga3 ha3 := SG_st (n := 13) (n' := 14) c2 (by decide) (by decide) (by decide) (fun a b a0 a1 => f1 a b a0 a1) (fun a b a0 => f2 a b (by omega) (by omega)) (fun b => by
    by_cases z : b = 0
    · rw [z, g9, if_pos (by decide)]
    · rw [f2 14 b (by decide) (fun w => z w.2), znw_at, if_neg (fun w => z w.2)]) (fun a b a0 a1 => f3 a b (by omega) (by omega)) (by decide) (by decide) (fun q hq q0 q1 q2 => by
    obtain ⟨k, ek⟩ := ss_14 q hq q0 q1 q2
    rw [ek]
    have hk := k.isLt
    rcases (show k.val = 0 ∨ k.val = 1 ∨ k.val = 2 ∨ k.val = 3 ∨ k.val = 4 ∨ k.val = 5 ∨ k.val = 6 ∨ k.val = 7 ∨ k.val = 8 by omega) with z | z | z | z | z | z | z | z | z
    · rw [z]; show Ga3 14 4 = 15; rw [g0]; decide
    · rw [z]; show Ga3 14 5 = 16; rw [g1]; decide
    · rw [z]; show Ga3 14 6 = 17; rw [g2]; decide
    · rw [z]; show Ga3 14 7 = 18; rw [g3]; decide
    · rw [z]; show Ga3 14 8 = 19; rw [g4]; decide
    · rw [z]; show Ga3 14 9 = 20; rw [g5]; decide
    · rw [z]; show Ga3 14 10 = 21; rw [g6]; decide
    · rw [z]; show Ga3 14 11 = 22; rw [g7]; decide
    · rw [z]; show Ga3 14 12 = 23; rw [g8]; decide) (fun y z => by omega)
  refine y_puto (k' := 2) fl_X9_23 rfl dX9_init_34 zs_23_1 (by decide) ?_
  dsimp only
  have c3 : SG 23 3 (zup Ga3 1 2 14) ha3 := SG_put (m := 2) d3 (by decide) (by decide +kernel) (by decide)
  generalize zup Ga3 1 2 14 = Gb3 at c3 ⊢
  clear d3
  refine z_aload_n dX9_init_37 rfl (by omega) ?_
  refine z_new zcl_X6 hdf_X6 lc_X9_26 dX9_init_38 (by show (SHL.take 23).length + 1 ≤ 1 + 238; rw [bl 23 (by decide)]; decide) (by show tot (SHL.take 23) + 6 ≤ 10 + 1575; rw [tt_23]; decide) (by show (SHL.take 23).length < 2147483647; rw [bl 23 (by decide)]; decide) ?_
  dsimp only
  rw [show ((SHL.take 23).length : Int) + 1 = 24 by rw [bl 23 (by decide)]; decide, ap_23]
  refine z_dup dX9_init_41 rfl ?_
  refine z_callIN (T := mX6_init) kX6_init (by omega) (List.mem_of_getElem? (i := 2) rfl) ⟨by decide, by decide⟩ dX9_init_42 (Nat.le_of_ble_eq_true rfl) (by show (SHL.take 24).length + 5 ≤ 1 + 238; rw [bl 24 (by decide)]; decide) (by show tot (SHL.take 24) + 28 ≤ 10 + 1575; rw [tt_24]; decide) (qX6_init (r := 24) zs_24_24 (by rw [bl 24 (by decide)]; decide) (fun Ga4 ha4 f1 f2 f3 g0 g1 g2 g3 g4 => ?_))
  rw [ap_24]
  rw [show ((SHL.take 24).length : Int) = 24 by rw [bl 24 (by decide)]; decide] at f1 f2 f3 g0 g1 g2 g3 g4
  have d4 : SG 29 3 Ga4 ha4 := SG_st (n := 23) (n' := 24) c3 (by decide) (by decide) (by decide) (fun a b a0 a1 => f1 a b a0 a1) (fun a b a0 => f2 a b (by omega) trivial) (fun b => by rw [f2 24 b (by decide) trivial, znw_at, if_neg (fun z => absurd z.1 (by decide))]) (fun a b a0 a1 => f3 a b (by omega) (by omega)) (by decide) (by decide) (fun q hq q0 q1 q2 => by
    obtain ⟨k, ek⟩ := ss_24 q hq q0 q1 q2
    rw [ek]
    have hk := k.isLt
    rcases (show k.val = 0 ∨ k.val = 1 ∨ k.val = 2 ∨ k.val = 3 ∨ k.val = 4 by omega) with z | z | z | z | z
    · rw [z]; show Ga4 24 0 = 25; rw [g0]; decide
    · rw [z]; show Ga4 24 1 = 26; rw [g1]; decide
    · rw [z]; show Ga4 24 2 = 27; rw [g2]; decide
    · rw [z]; show Ga4 24 3 = 28; rw [g3]; decide
    · rw [z]; show Ga4 24 4 = 29; rw [g4]; decide) (fun y z => by omega)
  refine y_putFo (k' := 3) ff_X9_29 rfl rfl dX9_init_45 zs_29_1 (by decide) ?_
  dsimp only
  have c4 : SG 29 4 (zup Ga4 1 3 24) ha4 := SG_put (m := 3) d4 (by decide) (by decide +kernel) (by decide)
  generalize zup Ga4 1 3 24 = Gb4 at c4 ⊢
  clear d4
  refine z_aload_n dX9_init_48 rfl (by omega) ?_
  refine z_new zcl_X3 hdf_X3 lc_X9_33 dX9_init_49 (by show (SHL.take 29).length + 1 ≤ 1 + 238; rw [bl 29 (by decide)]; decide) (by show tot (SHL.take 29) + 2 ≤ 10 + 1575; rw [tt_29]; decide) (by show (SHL.take 29).length < 2147483647; rw [bl 29 (by decide)]; decide) ?_
  dsimp only
  rw [show ((SHL.take 29).length : Int) + 1 = 30 by rw [bl 29 (by decide)]; decide, ap_29]
  refine z_dup dX9_init_52 rfl ?_
  refine z_callI (T := mX3_init) kX3_init (by omega) ml_X9_35 ⟨by decide, by decide⟩ dX9_init_53 (Nat.le_of_ble_eq_true rfl) (by show (SHL.take 30).length + 61 ≤ 1 + 238; rw [bl 30 (by decide)]; decide) (by show tot (SHL.take 30) + 350 ≤ 10 + 1575; rw [tt_30]; decide) (qX3_init (r := 30) zs_30_30 (by rw [bl 30 (by decide)]; decide) (fun Ga5 ha5 hv => ?_))
  rw [ap_30]
  rw [show ((SHL.take 30).length : Int) = 30 by rw [bl 30 (by decide)]; decide] at hv
  have d5 : SG 91 4 Ga5 ha5 := SG_st (n := 29) (n' := 30) c4 (by decide) (by decide) (by decide) (fun a b a0 a1 => hv.1 a b a0 a1) (fun a b a0 => hv.2.2.2.2.1 a b (by omega)) (fun b => by rw [hv.2.2.2.2.1 30 b (by decide), znw_at, if_neg (fun z => absurd z.1 (by decide))]) (fun a b a0 a1 => hv.2.2.2.2.2 a b (by omega) (by omega)) (by decide) (by decide) (fun q hq q0 q1 q2 => by
    rcases ss_30 q hq q0 q1 q2 with z | ⟨j, k, z⟩
    · rw [z]; show Ga5 30 0 = 31; rw [hv.2.1]; decide
    · have hj := j.isLt
      have hk := k.isLt
      have q9 := hv.2.2.2.1 (j.val : Int) (k.val : Int) (by omega) (by omega) (by omega) (by omega)
      rw [z]
      show Ga5 (32 + 6 * (j.val : Int)) (k.val : Int) = 33 + 6 * (j.val : Int) + (k.val : Int)
      rw [show (32 : Int) + 6 * (j.val : Int) = 30 + 2 + 6 * (j.val : Int) by omega, q9]
      omega) (fun _ _ j j0 j1 => by have q9 := hv.2.2.1 j j0 (by omega); rw [show (30 : Int) + 1 = 31 by decide] at q9; rw [q9]; omega)
  refine y_putFo (k' := 4) ff_X9_36 rfl rfl dX9_init_56 zs_91_1 (by decide) ?_
  dsimp only
  have c5 : SG 91 5 (zup Ga5 1 4 30) ha5 := SG_put (m := 4) d5 (by decide) (by decide +kernel) (by decide)
  generalize zup Ga5 1 4 30 = Gb5 at c5 ⊢
  clear d5
  refine z_aload_n dX9_init_59 rfl (by omega) ?_
  refine z_iconst dX9_init_60 ⟨by decide, by decide⟩ ?_
  refine z_newq (N := 2) (Or.inr ⟨rfl, rfl, rfl⟩) lc_X9_40 dX9_init_61 rfl (by decide) (by show (SHL.take 91).length + 1 ≤ 1 + 238; rw [bl 91 (by decide)]; decide) (by show tot (SHL.take 91) + 2 ≤ 10 + 1575; rw [tt_91]; decide) ?_
  dsimp only
  rw [show ((SHL.take 91).length : Int) + 1 = 92 by rw [bl 91 (by decide)]; decide, ap_91]
  refine y_putFa (k' := 5) ff_X9_42 rfl rfl dX9_init_64 zs_92_1 (by decide) ?_
  dsimp only
  have d6 : SG 92 5 (znw Gb5 92) (znw ha5 92) := SG_st (n := 91) (n' := 92) c5 (by decide) (by decide) (by decide) (fun _ _ _ _ => rfl) (fun _ _ _ => rfl) (fun b => by rw [znw_at, if_neg (fun z => absurd z.1 (by decide))]) (fun a b a0 a1 => by omega) (by decide) (by decide) (fun q hq q0 q1 q2 => absurd q2 (ss_92 q hq q0 q1)) (fun y z => by omega)
  have c6 : SG 92 6 (zup (znw Gb5 92) 1 5 92) (znw ha5 92) := SG_put (m := 5) d6 (by decide) (by decide +kernel) (by decide)
  generalize zup (znw Gb5 92) 1 5 92 = Gb6 at c6 ⊢
  generalize znw ha5 92 = ha6 at c6 ⊢
  clear d6
  refine z_aload_n dX9_init_67 rfl (by omega) ?_
  refine z_new zcl_X2 hdf_X2 lc_X9_46 dX9_init_68 (by show (SHL.take 92).length + 1 ≤ 1 + 238; rw [bl 92 (by decide)]; decide) (by show tot (SHL.take 92) + 3 ≤ 10 + 1575; rw [tt_92]; decide) (by show (SHL.take 92).length < 2147483647; rw [bl 92 (by decide)]; decide) ?_
  dsimp only
  rw [show ((SHL.take 92).length : Int) + 1 = 93 by rw [bl 92 (by decide)]; decide, ap_92]
  refine z_dup dX9_init_71 rfl ?_
  refine z_callIN (T := mX2_init) kX2_init (by omega) (List.mem_of_getElem? (i := 4) rfl) ⟨by decide, by decide⟩ dX9_init_72 (Nat.le_of_ble_eq_true rfl) (by show (SHL.take 93).length + 2 ≤ 1 + 238; rw [bl 93 (by decide)]; decide) (by show tot (SHL.take 93) + 8 ≤ 10 + 1575; rw [tt_93]; decide) (qX2_init (r := 93) zs_93_93 (by rw [bl 93 (by decide)]; decide) (fun Ga7 ha7 f1 f2 f3 g0 g1 => ?_))
  rw [ap_93]
  rw [show ((SHL.take 93).length : Int) = 93 by rw [bl 93 (by decide)]; decide] at f1 f2 f3 g0 g1
  have d7 : SG 95 6 Ga7 ha7 := SG_st (n := 92) (n' := 93) c6 (by decide) (by decide) (by decide) (fun a b a0 a1 => f1 a b a0 a1) (fun a b a0 => f2 a b (by omega) trivial) (fun b => by rw [f2 93 b (by decide) trivial, znw_at, if_neg (fun z => absurd z.1 (by decide))]) (fun a b a0 a1 => f3 a b (by omega) (by omega)) (by decide) (by decide) (fun q hq q0 q1 q2 => by
    rcases ss_93 q hq q0 q1 q2 with z | z
    · rw [z]; show Ga7 93 0 = 94; rw [g0]; decide
    · rw [z]; show Ga7 93 1 = 95; rw [g1]; decide) (fun y z => by omega)
  refine y_putFo (k' := 6) ff_X9_49 rfl rfl dX9_init_75 zs_95_1 (by decide) ?_
  dsimp only
  have c7 : SG 95 7 (zup Ga7 1 6 93) ha7 := SG_put (m := 6) d7 (by decide) (by decide +kernel) (by decide)
  generalize zup Ga7 1 6 93 = Gb7 at c7 ⊢
  clear d7
  refine z_aload_n dX9_init_78 rfl (by omega) ?_
  refine z_new zcl_X8 hdf_X8 lc_X9_53 dX9_init_79 (by show (SHL.take 95).length + 1 ≤ 1 + 238; rw [bl 95 (by decide)]; decide) (by show tot (SHL.take 95) + 4 ≤ 10 + 1575; rw [tt_95]; decide) (by show (SHL.take 95).length < 2147483647; rw [bl 95 (by decide)]; decide) ?_
  dsimp only
  rw [show ((SHL.take 95).length : Int) + 1 = 96 by rw [bl 95 (by decide)]; decide, ap_95]
  refine z_dup dX9_init_82 rfl ?_
  refine z_callIN (T := mX8_init) kX8_init (by omega) (List.mem_of_getElem? (i := 5) rfl) ⟨by decide, by decide⟩ dX9_init_83 (Nat.le_of_ble_eq_true rfl) (by show (SHL.take 96).length + 2 ≤ 1 + 238; rw [bl 96 (by decide)]; decide) (by show tot (SHL.take 96) + 16 ≤ 10 + 1575; rw [tt_96]; decide) (qX8_init (r := 96) zs_96_96 (by rw [bl 96 (by decide)]; decide) (fun Ga8 ha8 f1 f2 f3 g0 g1 => ?_))
  rw [ap_96]
  rw [show ((SHL.take 96).length : Int) = 96 by rw [bl 96 (by decide)]; decide] at f1 f2 f3 g0 g1
  have d8 : SG 98 7 Ga8 ha8 := SG_st (n := 95) (n' := 96) c7 (by decide) (by decide) (by decide) (fun a b a0 a1 => f1 a b a0 a1) (fun a b a0 => f2 a b (by omega) trivial) (fun b => by rw [f2 96 b (by decide) trivial, znw_at, if_neg (fun z => absurd z.1 (by decide))]) (fun a b a0 a1 => f3 a b (by omega) (by omega)) (by decide) (by decide) (fun q hq q0 q1 q2 => by
    rcases ss_96 q hq q0 q1 q2 with z | z
    · rw [z]; show Ga8 96 0 = 97; rw [g0]; decide
    · rw [z]; show Ga8 96 1 = 98; rw [g1]; decide) (fun y z => by omega)
  refine y_putFo (k' := 7) ff_X9_56 rfl rfl dX9_init_86 zs_98_1 (by decide) ?_
  dsimp only
  have c8 : SG 98 8 (zup Ga8 1 7 96) ha8 := SG_put (m := 7) d8 (by decide) (by decide +kernel) (by decide)
  generalize zup Ga8 1 7 96 = Gb8 at c8 ⊢
  clear d8
  refine z_aload_n dX9_init_89 rfl (by omega) ?_
  refine z_new zcl_X0 hdf_X0 lc_X9_60 dX9_init_90 (by show (SHL.take 98).length + 1 ≤ 1 + 238; rw [bl 98 (by decide)]; decide) (by show tot (SHL.take 98) + 3 ≤ 10 + 1575; rw [tt_98]; decide) (by show (SHL.take 98).length < 2147483647; rw [bl 98 (by decide)]; decide) ?_
  dsimp only
  rw [show ((SHL.take 98).length : Int) + 1 = 99 by rw [bl 98 (by decide)]; decide, ap_98]
  refine z_dup dX9_init_93 rfl ?_
  refine z_callIN (T := mX0_init) kX0_init (by omega) (List.mem_of_getElem? (i := 6) rfl) ⟨by decide, by decide⟩ dX9_init_94 (Nat.le_of_ble_eq_true rfl) (by show (SHL.take 99).length + 2 ≤ 1 + 238; rw [bl 99 (by decide)]; decide) (by show tot (SHL.take 99) + 70 ≤ 10 + 1575; rw [tt_99]; decide) (qX0_init (r := 99) zs_99_99 (by rw [bl 99 (by decide)]; decide) (fun Ga9 ha9 f1 f2 f3 g0 g1 => ?_))
  rw [ap_99]
  rw [show ((SHL.take 99).length : Int) = 99 by rw [bl 99 (by decide)]; decide] at f1 f2 f3 g0 g1
  have d9 : SG 101 8 Ga9 ha9 := SG_st (n := 98) (n' := 99) c8 (by decide) (by decide) (by decide) (fun a b a0 a1 => f1 a b a0 a1) (fun a b a0 => f2 a b (by omega) trivial) (fun b => by rw [f2 99 b (by decide) trivial, znw_at, if_neg (fun z => absurd z.1 (by decide))]) (fun a b a0 a1 => f3 a b (by omega) (by omega)) (by decide) (by decide) (fun q hq q0 q1 q2 => by
    rcases ss_99 q hq q0 q1 q2 with z | z
    · rw [z]; show Ga9 99 0 = 100; rw [g0]; decide
    · rw [z]; show Ga9 99 1 = 101; rw [g1]; decide) (fun y z => by omega)
  refine y_putFo (k' := 8) ff_X9_63 rfl rfl dX9_init_97 zs_101_1 (by decide) ?_
  dsimp only
  have c9 : SG 101 9 (zup Ga9 1 8 99) ha9 := SG_put (m := 8) d9 (by decide) (by decide +kernel) (by decide)
  generalize zup Ga9 1 8 99 = Gb9 at c9 ⊢
  clear d9
  refine z_iconst dX9_init_100 ⟨by decide, by decide⟩ ?_
  refine z_istore_n dX9_init_101 (by decide) rfl lss_2_1 ?_
  refine z_iload_n dX9_init_102 rfl ?_
  refine z_iconst dX9_init_103 ⟨by decide, by decide⟩ ?_
  refine z_icmp_ge (tgt := 126) dX9_init_104 (by decide) (fun q => False.elim (by omega)) (fun _ => ?_)
  refine z_aload_n dX9_init_107 rfl (by omega) ?_
  refine y_geta (k' := 5) fl_X9_42 rfl dX9_init_108 zs_101_1 (by decide) (c9.2.1 (1, 5, 92) (by decide +kernel) (by decide)) ?_
  refine z_iload_n dX9_init_111 rfl ?_
  refine z_new zcl_X5 hdf_X5 lc_X9_40 dX9_init_112 (by show (SHL.take 101).length + 1 ≤ 1 + 238; rw [bl 101 (by decide)]; decide) (by show tot (SHL.take 101) + 3 ≤ 10 + 1575; rw [tt_101]; decide) (by show (SHL.take 101).length < 2147483647; rw [bl 101 (by decide)]; decide) ?_
  dsimp only
  rw [show ((SHL.take 101).length : Int) + 1 = 102 by rw [bl 101 (by decide)]; decide, ap_101]
  refine z_dup dX9_init_115 rfl ?_
  refine z_callIN (T := mX5_init) kX5_init (by omega) (List.mem_of_getElem? (i := 7) rfl) ⟨by decide, by decide⟩ dX9_init_116 (Nat.le_of_ble_eq_true rfl) (by show (SHL.take 102).length + 68 ≤ 1 + 238; rw [bl 102 (by decide)]; decide) (by show tot (SHL.take 102) + 386 ≤ 10 + 1575; rw [tt_102]; decide) (qX5_init (r := 102) zs_102_102 (by rw [bl 102 (by decide)]; decide) (fun Ga10 ha10 hv => ?_))
  rw [ap_102]
  rw [show ((SHL.take 102).length : Int) = 102 by rw [bl 102 (by decide)]; decide] at hv
  have d10 : SG 170 9 Ga10 ha10 := SG_st (n := 101) (n' := 102) c9 (by decide) (by decide) (by decide) (fun a b a0 a1 => hv.1 a b a0 a1) (fun a b a0 => hv.2.2.2.2.2.2.2.1 a b (by omega)) (fun b => by rw [hv.2.2.2.2.2.2.2.1 102 b (by decide), znw_at, if_neg (fun z => absurd z.1 (by decide))]) (fun a b a0 a1 => hv.2.2.2.2.2.2.2.2 a b (by omega) (by omega)) (by decide) (by decide) (fun q hq q0 q1 q2 => by
    rcases ss_102 q hq q0 q1 q2 with z | z | ⟨k, z⟩ | z | ⟨j, z⟩ | ⟨j, k, z⟩
    · rw [z]; show Ga10 102 0 = 103; rw [hv.2.1]; decide
    · rw [z]; show Ga10 102 1 = 109; rw [hv.2.2.1]; decide
    · have hk := k.isLt
      have q9 := hv.2.2.2.1 (k.val : Int) (by omega) (by omega)
      rw [z]
      show Ga10 103 (k.val : Int) = 104 + (k.val : Int)
      rw [show (103 : Int) = 102 + 1 by decide, q9]
      omega
    · rw [z]; show Ga10 109 0 = 110; rw [show (109 : Int) = 102 + 7 by decide, hv.2.2.2.2.1]; decide
    · have hj := j.isLt
      have q9 := hv.2.2.2.2.2.1 (j.val : Int) (by omega) (by omega)
      rw [z]
      show Ga10 110 (j.val : Int) = 111 + 6 * (j.val : Int)
      rw [show (110 : Int) = 102 + 8 by decide, q9]
      omega
    · have hj := j.isLt
      have hk := k.isLt
      have q9 := hv.2.2.2.2.2.2.1 (j.val : Int) (k.val : Int) (by omega) (by omega) (by omega) (by omega)
      rw [z]
      show Ga10 (111 + 6 * (j.val : Int)) (k.val : Int) = 112 + 6 * (j.val : Int) + (k.val : Int)
      rw [show (111 : Int) + 6 * (j.val : Int) = 102 + 9 + 6 * (j.val : Int) by omega, q9]
      omega) (fun y z => by omega)
  refine z_aast dX9_init_119 (Or.inr ⟨rfl, rfl⟩) zs_170_92 (by omega) (by omega) zs_170_102 ?_
  dsimp only
  have c10 : SG 170 9 (zup Ga10 92 0 102) ha10 := SG_92 d10
  have w92 : zup Ga10 92 0 102 92 0 = 102 := zup_same _ _ _ _
  generalize zup Ga10 92 0 102 = Gb10 at c10 w92 ⊢
  clear d10
  refine y_iinc dX9_init_120 (by decide) rfl rfl (by omega) (by omega) lss_2_1 ?_
  refine z_goto (tgt := 102) dX9_init_123 (by decide) ?_
  refine z_iload_n dX9_init_102 rfl ?_
  refine z_iconst dX9_init_103 ⟨by decide, by decide⟩ ?_
  refine z_icmp_ge (tgt := 126) dX9_init_104 (by decide) (fun q => False.elim (by omega)) (fun _ => ?_)
  refine z_aload_n dX9_init_107 rfl (by omega) ?_
  refine y_geta (k' := 5) fl_X9_42 rfl dX9_init_108 zs_170_1 (by decide) (c10.2.1 (1, 5, 92) (by decide +kernel) (by decide)) ?_
  refine z_iload_n dX9_init_111 rfl ?_
  refine z_new zcl_X5 hdf_X5 lc_X9_40 dX9_init_112 (by show (SHL.take 170).length + 1 ≤ 1 + 238; rw [bl 170 (by decide)]; decide) (by show tot (SHL.take 170) + 3 ≤ 10 + 1575; rw [tt_170]; decide) (by show (SHL.take 170).length < 2147483647; rw [bl 170 (by decide)]; decide) ?_
  dsimp only
  rw [show ((SHL.take 170).length : Int) + 1 = 171 by rw [bl 170 (by decide)]; decide, ap_170]
  refine z_dup dX9_init_115 rfl ?_
  refine z_callIN (T := mX5_init) kX5_init (by omega) (List.mem_of_getElem? (i := 7) rfl) ⟨by decide, by decide⟩ dX9_init_116 (Nat.le_of_ble_eq_true rfl) (by show (SHL.take 171).length + 68 ≤ 1 + 238; rw [bl 171 (by decide)]; decide) (by show tot (SHL.take 171) + 386 ≤ 10 + 1575; rw [tt_171]; decide) (qX5_init (r := 171) zs_171_171 (by rw [bl 171 (by decide)]; decide) (fun Ga11 ha11 hv => ?_))
  rw [ap_171]
  rw [show ((SHL.take 171).length : Int) = 171 by rw [bl 171 (by decide)]; decide] at hv
  have d11 : SG 239 9 Ga11 ha11 := SG_st (n := 170) (n' := 171) c10 (by decide) (by decide) (by decide) (fun a b a0 a1 => hv.1 a b a0 a1) (fun a b a0 => hv.2.2.2.2.2.2.2.1 a b (by omega)) (fun b => by rw [hv.2.2.2.2.2.2.2.1 171 b (by decide), znw_at, if_neg (fun z => absurd z.1 (by decide))]) (fun a b a0 a1 => hv.2.2.2.2.2.2.2.2 a b (by omega) (by omega)) (by decide) (by decide) (fun q hq q0 q1 q2 => by
    rcases ss_171 q hq q0 q1 q2 with z | z | ⟨k, z⟩ | z | ⟨j, z⟩ | ⟨j, k, z⟩
    · rw [z]; show Ga11 171 0 = 172; rw [hv.2.1]; decide
    · rw [z]; show Ga11 171 1 = 178; rw [hv.2.2.1]; decide
    · have hk := k.isLt
      have q9 := hv.2.2.2.1 (k.val : Int) (by omega) (by omega)
      rw [z]
      show Ga11 172 (k.val : Int) = 173 + (k.val : Int)
      rw [show (172 : Int) = 171 + 1 by decide, q9]
      omega
    · rw [z]; show Ga11 178 0 = 179; rw [show (178 : Int) = 171 + 7 by decide, hv.2.2.2.2.1]; decide
    · have hj := j.isLt
      have q9 := hv.2.2.2.2.2.1 (j.val : Int) (by omega) (by omega)
      rw [z]
      show Ga11 179 (j.val : Int) = 180 + 6 * (j.val : Int)
      rw [show (179 : Int) = 171 + 8 by decide, q9]
      omega
    · have hj := j.isLt
      have hk := k.isLt
      have q9 := hv.2.2.2.2.2.2.1 (j.val : Int) (k.val : Int) (by omega) (by omega) (by omega) (by omega)
      rw [z]
      show Ga11 (180 + 6 * (j.val : Int)) (k.val : Int) = 181 + 6 * (j.val : Int) + (k.val : Int)
      rw [show (180 : Int) + 6 * (j.val : Int) = 171 + 9 + 6 * (j.val : Int) by omega, q9]
      omega) (fun y z => by omega)
  have x92 : Ga11 92 0 = 102 := by rw [hv.1 92 0 (by decide) (by decide), znw_ne (by decide), w92]
  refine z_aast dX9_init_119 (Or.inr ⟨rfl, rfl⟩) zs_239_92 (by omega) (by omega) zs_239_171 ?_
  dsimp only
  have c11 : SG 239 9 (zup Ga11 92 (0 + 1) 171) ha11 := SG_92 d11
  have w92b : zup Ga11 92 (0 + 1) 171 92 0 = 102 := by rw [zup_ne (by decide), x92]
  have w92c : zup Ga11 92 (0 + 1) 171 92 1 = 171 := zup_same _ _ _ _
  generalize zup Ga11 92 (0 + 1) 171 = Gb11 at c11 w92b w92c ⊢
  clear d11
  refine y_iinc dX9_init_120 (by decide) rfl rfl (by omega) (by omega) lss_2_1 ?_
  refine z_goto (tgt := 102) dX9_init_123 (by decide) ?_
  refine z_iload_n dX9_init_102 rfl ?_
  refine z_iconst dX9_init_103 ⟨by decide, by decide⟩ ?_
  refine z_icmp_ge (tgt := 126) dX9_init_104 (by decide) (fun _ => ?_) (fun q => False.elim (by omega))
  refine z_ret (v := none) dX9_init_126 trivial (by show (SHL.take 239).length = 1 + 238; rw [bl 239 (by decide)]) (by show tot (SHL.take 239) = 10 + 1575; rw [tt_239]) rfl ?_
  exact hQ _ _ c11 w92b w92c
