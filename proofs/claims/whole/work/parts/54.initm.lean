/-! The reference is made. -/
def X10L : List (Nat × Nat) := [(100, 27), (100, 18), (100, 4), (100, 29), (100, 290), (100, 640), (101, 2), (100, 8), (100, 150), (100, 27), (100, 18), (100, 6), (100, 6), (100, 4), (100, 8), (100, 64)]
def MPUT : List (Int × Int) := [(2, 1), (4, 2), (6, 3), (7, 4), (8, 5), (10, 6), (11, 7), (12, 8), (15, 9), (23, 10), (25, 11), (26, 12), (27, 13), (29, 14), (30, 15), (33, 16)]
/-- the reference while it is made: j arrays stand -/
def MI (N r : Int) (G0 H : zH) (j : Int) (G h : zH) : Prop := (∀ a b : Int, a ≤ N → a ≠ r → G a b = G0 a b) ∧ (∀ q ∈ MPUT, q.2 ≤ j → G r q.1 = N + q.2) ∧ (∀ a b : Int, a ≤ N → h a b = H a b) ∧ (∀ a b : Int, N < a → a ≤ N + j → h a b = 0)
theorem MI_step {N r j k v : Int} {G0 H G h : zH} (c : MI N r G0 H j G h) (r0 : r ≤ N) (j0 : 0 ≤ j) (hk : ∀ q ∈ MPUT, q.2 ≤ j + 1 → (q.1 ≠ k ∧ q.2 ≤ j) ∨ q = (k, j + 1)) (hv : v = N + (j + 1)) : MI N r G0 H (j + 1) (zup (znw G v) r k v) (znw h v) := by
  obtain ⟨c1, c2, c3, c4⟩ := c
  refine ⟨fun a b a0 a1 => ?_, fun q hq q1 => ?_, fun a b a0 => ?_, fun a b a0 a1 => ?_⟩
  · rw [zup_ne (by omega), znw_ne (by omega), c1 a b a0 a1]
  · rcases hk q hq q1 with z | z
    · rw [zup_ne (by omega), znw_ne (by omega), c2 q hq z.2]
    · rw [z, zup_same, hv]
  · rw [znw_ne (by omega), c3 a b a0]
  · by_cases z : a = v
    · rw [z, znw_at]
    · rw [znw_ne z, c4 a b a0 (by omega)]
theorem MI_put {N r j b v : Int} {G0 H G h : zH} (c : MI N r G0 H j G h) (r0 : r ≤ N) : MI N r G0 (zup H r b v) j G (zup h r b v) := by
  obtain ⟨c1, c2, c3, c4⟩ := c
  refine ⟨c1, c2, fun x y a0 => ?_, fun x y a0 a1 => ?_⟩
  · by_cases z : x = r ∧ y = b
    · rw [z.1, z.2, zup_same, zup_same]
    · rw [zup_ne z, zup_ne z, c3 x y a0]
  · rw [zup_ne (by omega), c4 x y a0 a1]
theorem MP_1 : ∀ q ∈ MPUT, 1 ≤ q.2 := by decide +kernel
set_option maxHeartbeats 4000000 in
theorem qX10_init {l : Launch} {A : List (Nat × Nat)} {G h : zH} {Q : zQt} {r : Int} (hs : zsh (A, G) r = some (9, 34)) (hl : A.length < 100000) (hQ : ∀ G' h', MI A.length r G (zup (zup h r 0 4) r 18 (-9)) 16 G' h' → Q none (A ++ X10L, G') h') : zC l mX10_init [zr r] (A, G) h Q := by
  have hs9 := zsh_le hs
  refine z_method kX10_init.1 rfl (Nat.le_of_ble_eq_true rfl) (fun hok hh => ?_)
  have c0 : MI A.length r G h 0 G h := ⟨fun _ _ _ _ => rfl, fun q hq q1 => by have := MP_1 q hq; omega, fun _ _ _ => rfl, fun a b a0 a1 => by omega⟩
  have eA : A ++ X10L.take 0 = A := List.append_nil A
  refine z_aload_n dX10_init_0 rfl (by omega) ?_
  refine z_objInit hs9.1 kobj ml_X10_1 (by decide) (by decide) dX10_init_1 ?_
  refine z_aload_n dX10_init_4 rfl (by omega) ?_
  refine z_iconst dX10_init_5 ⟨by decide, by decide⟩ ?_
  refine y_puti (k' := 0) fl_X10_7 rfl dX10_init_6 hs (by decide) ?_
  replace c0 := MI_put (b := 0) (v := 4) c0 (by omega)
  generalize hz : zup h r 0 (4) = hp0 at c0 ⊢
  refine z_aload_n dX10_init_9 rfl (by omega) ?_
  refine z_bipush dX10_init_10 ⟨by decide, by decide⟩ ?_
  refine z_newi (N := 27) dX10_init_12 karrI rfl (by decide) (by show (A).length + 1 ≤ A.length + 16; omega) (by show tot (A) + 27 ≤ tot A + 1301; omega) (by show (A).length < 2147483647; omega) ?_
  refine y_putFa (k' := 2) ff_X10_13 rfl rfl dX10_init_14 (zsh_app (G := G) hs) (by decide) ?_
  dsimp only
  have c1 := MI_step (k := 2) (v := ((A.length : Int) + 1)) c0 (by omega) (by omega) (by decide +kernel) (by omega)
  generalize zup (znw G ((A.length : Int) + 1)) r 2 ((A.length : Int) + 1) = G1 at c1 ⊢
  generalize znw hp0 ((A.length : Int) + 1) = h1 at c1 ⊢
  show zW zX0 l mX10_init _ _ Q _ _ _ (A ++ X10L.take 1, G1) h1
  refine z_aload_n dX10_init_17 rfl (by omega) ?_
  refine z_bipush dX10_init_18 ⟨by decide, by decide⟩ ?_
  refine z_newi (N := 18) dX10_init_20 karrI rfl (by decide) (by show (A ++ X10L.take 1).length + 1 ≤ A.length + 16; rw [List.length_append, show (X10L.take 1).length = 1 from rfl]; omega) (by show tot (A ++ X10L.take 1) + 18 ≤ tot A + 1301; rw [tot_app, show tot (X10L.take 1) = 27 from rfl]; omega) (by show (A ++ X10L.take 1).length < 2147483647; rw [List.length_append, show (X10L.take 1).length = 1 from rfl]; omega) ?_
  refine y_putFa (k' := 4) ff_X10_17 rfl rfl dX10_init_22 (zsh_app (G := G) (zsh_app (G := G) hs)) (by decide) ?_
  dsimp only
  have e1 : ((A ++ X10L.take 1).length : Int) + 1 = A.length + (1 + 1) := by rw [List.length_append, show (X10L.take 1).length = 1 from rfl]; omega
  rw [e1, List.append_assoc]
  have c2 := MI_step (k := 4) (v := ((A.length : Int) + (1 + 1))) c1 (by omega) (by omega) (by decide +kernel) (by omega)
  generalize zup (znw G1 ((A.length : Int) + (1 + 1))) r 4 ((A.length : Int) + (1 + 1)) = G2 at c2 ⊢
  generalize znw h1 ((A.length : Int) + (1 + 1)) = h2 at c2 ⊢
  show zW zX0 l mX10_init _ _ Q _ _ _ (A ++ X10L.take 2, G2) h2
  refine z_aload_n dX10_init_25 rfl (by omega) ?_
  refine z_iconst dX10_init_26 ⟨by decide, by decide⟩ ?_
  refine z_newi (N := 4) dX10_init_27 karrI rfl (by decide) (by show (A ++ X10L.take 2).length + 1 ≤ A.length + 16; rw [List.length_append, show (X10L.take 2).length = 2 from rfl]; omega) (by show tot (A ++ X10L.take 2) + 4 ≤ tot A + 1301; rw [tot_app, show tot (X10L.take 2) = 45 from rfl]; omega) (by show (A ++ X10L.take 2).length < 2147483647; rw [List.length_append, show (X10L.take 2).length = 2 from rfl]; omega) ?_
  refine y_putFa (k' := 6) ff_X10_20 rfl rfl dX10_init_29 (zsh_app (G := G) (zsh_app (G := G) hs)) (by decide) ?_
  dsimp only
  have e2 : ((A ++ X10L.take 2).length : Int) + 1 = A.length + (2 + 1) := by rw [List.length_append, show (X10L.take 2).length = 2 from rfl]; omega
  rw [e2, List.append_assoc]
  have c3 := MI_step (k := 6) (v := ((A.length : Int) + (2 + 1))) c2 (by omega) (by omega) (by decide +kernel) (by omega)
  generalize zup (znw G2 ((A.length : Int) + (2 + 1))) r 6 ((A.length : Int) + (2 + 1)) = G3 at c3 ⊢
  generalize znw h2 ((A.length : Int) + (2 + 1)) = h3 at c3 ⊢
  show zW zX0 l mX10_init _ _ Q _ _ _ (A ++ X10L.take 3, G3) h3
  refine z_aload_n dX10_init_32 rfl (by omega) ?_
  refine z_bipush dX10_init_33 ⟨by decide, by decide⟩ ?_
  refine z_newi (N := 29) dX10_init_35 karrI rfl (by decide) (by show (A ++ X10L.take 3).length + 1 ≤ A.length + 16; rw [List.length_append, show (X10L.take 3).length = 3 from rfl]; omega) (by show tot (A ++ X10L.take 3) + 29 ≤ tot A + 1301; rw [tot_app, show tot (X10L.take 3) = 49 from rfl]; omega) (by show (A ++ X10L.take 3).length < 2147483647; rw [List.length_append, show (X10L.take 3).length = 3 from rfl]; omega) ?_
  refine y_putFa (k' := 7) ff_X10_23 rfl rfl dX10_init_37 (zsh_app (G := G) (zsh_app (G := G) hs)) (by decide) ?_
  dsimp only
  have e3 : ((A ++ X10L.take 3).length : Int) + 1 = A.length + (3 + 1) := by rw [List.length_append, show (X10L.take 3).length = 3 from rfl]; omega
  rw [e3, List.append_assoc]
  have c4 := MI_step (k := 7) (v := ((A.length : Int) + (3 + 1))) c3 (by omega) (by omega) (by decide +kernel) (by omega)
  generalize zup (znw G3 ((A.length : Int) + (3 + 1))) r 7 ((A.length : Int) + (3 + 1)) = G4 at c4 ⊢
  generalize znw h3 ((A.length : Int) + (3 + 1)) = h4 at c4 ⊢
  show zW zX0 l mX10_init _ _ Q _ _ _ (A ++ X10L.take 4, G4) h4
  refine z_aload_n dX10_init_40 rfl (by omega) ?_
  refine z_sipush dX10_init_41 ⟨by decide, by decide⟩ ?_
  refine z_newi (N := 290) dX10_init_44 karrI rfl (by decide) (by show (A ++ X10L.take 4).length + 1 ≤ A.length + 16; rw [List.length_append, show (X10L.take 4).length = 4 from rfl]; omega) (by show tot (A ++ X10L.take 4) + 290 ≤ tot A + 1301; rw [tot_app, show tot (X10L.take 4) = 78 from rfl]; omega) (by show (A ++ X10L.take 4).length < 2147483647; rw [List.length_append, show (X10L.take 4).length = 4 from rfl]; omega) ?_
  refine y_putFa (k' := 8) ff_X10_26 rfl rfl dX10_init_46 (zsh_app (G := G) (zsh_app (G := G) hs)) (by decide) ?_
  dsimp only
  have e4 : ((A ++ X10L.take 4).length : Int) + 1 = A.length + (4 + 1) := by rw [List.length_append, show (X10L.take 4).length = 4 from rfl]; omega
  rw [e4, List.append_assoc]
  have c5 := MI_step (k := 8) (v := ((A.length : Int) + (4 + 1))) c4 (by omega) (by omega) (by decide +kernel) (by omega)
  generalize zup (znw G4 ((A.length : Int) + (4 + 1))) r 8 ((A.length : Int) + (4 + 1)) = G5 at c5 ⊢
  generalize znw h4 ((A.length : Int) + (4 + 1)) = h5 at c5 ⊢
  show zW zX0 l mX10_init _ _ Q _ _ _ (A ++ X10L.take 5, G5) h5
  refine z_aload_n dX10_init_49 rfl (by omega) ?_
  refine z_sipush dX10_init_50 ⟨by decide, by decide⟩ ?_
  refine z_newi (N := 640) dX10_init_53 karrI rfl (by decide) (by show (A ++ X10L.take 5).length + 1 ≤ A.length + 16; rw [List.length_append, show (X10L.take 5).length = 5 from rfl]; omega) (by show tot (A ++ X10L.take 5) + 640 ≤ tot A + 1301; rw [tot_app, show tot (X10L.take 5) = 368 from rfl]; omega) (by show (A ++ X10L.take 5).length < 2147483647; rw [List.length_append, show (X10L.take 5).length = 5 from rfl]; omega) ?_
  refine y_putFa (k' := 10) ff_X10_29 rfl rfl dX10_init_55 (zsh_app (G := G) (zsh_app (G := G) hs)) (by decide) ?_
  dsimp only
  have e5 : ((A ++ X10L.take 5).length : Int) + 1 = A.length + (5 + 1) := by rw [List.length_append, show (X10L.take 5).length = 5 from rfl]; omega
  rw [e5, List.append_assoc]
  have c6 := MI_step (k := 10) (v := ((A.length : Int) + (5 + 1))) c5 (by omega) (by omega) (by decide +kernel) (by omega)
  generalize zup (znw G5 ((A.length : Int) + (5 + 1))) r 10 ((A.length : Int) + (5 + 1)) = G6 at c6 ⊢
  generalize znw h5 ((A.length : Int) + (5 + 1)) = h6 at c6 ⊢
  show zW zX0 l mX10_init _ _ Q _ _ _ (A ++ X10L.take 6, G6) h6
  refine z_aload_n dX10_init_58 rfl (by omega) ?_
  refine z_iconst dX10_init_59 ⟨by decide, by decide⟩ ?_
  refine z_newz (N := 2) dX10_init_60 karrZ rfl (by decide) (by show (A ++ X10L.take 6).length + 1 ≤ A.length + 16; rw [List.length_append, show (X10L.take 6).length = 6 from rfl]; omega) (by show tot (A ++ X10L.take 6) + 2 ≤ tot A + 1301; rw [tot_app, show tot (X10L.take 6) = 1008 from rfl]; omega) (by show (A ++ X10L.take 6).length < 2147483647; rw [List.length_append, show (X10L.take 6).length = 6 from rfl]; omega) ?_
  refine y_putFa (k' := 11) ff_X10_32 rfl rfl dX10_init_62 (zsh_app (G := G) (zsh_app (G := G) hs)) (by decide) ?_
  dsimp only
  have e6 : ((A ++ X10L.take 6).length : Int) + 1 = A.length + (6 + 1) := by rw [List.length_append, show (X10L.take 6).length = 6 from rfl]; omega
  rw [e6, List.append_assoc]
  have c7 := MI_step (k := 11) (v := ((A.length : Int) + (6 + 1))) c6 (by omega) (by omega) (by decide +kernel) (by omega)
  generalize zup (znw G6 ((A.length : Int) + (6 + 1))) r 11 ((A.length : Int) + (6 + 1)) = G7 at c7 ⊢
  generalize znw h6 ((A.length : Int) + (6 + 1)) = h7 at c7 ⊢
  show zW zX0 l mX10_init _ _ Q _ _ _ (A ++ X10L.take 7, G7) h7
  refine z_aload_n dX10_init_65 rfl (by omega) ?_
  refine z_bipush dX10_init_66 ⟨by decide, by decide⟩ ?_
  refine z_newi (N := 8) dX10_init_68 karrI rfl (by decide) (by show (A ++ X10L.take 7).length + 1 ≤ A.length + 16; rw [List.length_append, show (X10L.take 7).length = 7 from rfl]; omega) (by show tot (A ++ X10L.take 7) + 8 ≤ tot A + 1301; rw [tot_app, show tot (X10L.take 7) = 1010 from rfl]; omega) (by show (A ++ X10L.take 7).length < 2147483647; rw [List.length_append, show (X10L.take 7).length = 7 from rfl]; omega) ?_
  refine y_putFa (k' := 12) ff_X10_36 rfl rfl dX10_init_70 (zsh_app (G := G) (zsh_app (G := G) hs)) (by decide) ?_
  dsimp only
  have e7 : ((A ++ X10L.take 7).length : Int) + 1 = A.length + (7 + 1) := by rw [List.length_append, show (X10L.take 7).length = 7 from rfl]; omega
  rw [e7, List.append_assoc]
  have c8 := MI_step (k := 12) (v := ((A.length : Int) + (7 + 1))) c7 (by omega) (by omega) (by decide +kernel) (by omega)
  generalize zup (znw G7 ((A.length : Int) + (7 + 1))) r 12 ((A.length : Int) + (7 + 1)) = G8 at c8 ⊢
  generalize znw h7 ((A.length : Int) + (7 + 1)) = h8 at c8 ⊢
  show zW zX0 l mX10_init _ _ Q _ _ _ (A ++ X10L.take 8, G8) h8
  refine z_aload_n dX10_init_73 rfl (by omega) ?_
  refine z_sipush dX10_init_74 ⟨by decide, by decide⟩ ?_
  refine z_newi (N := 150) dX10_init_77 karrI rfl (by decide) (by show (A ++ X10L.take 8).length + 1 ≤ A.length + 16; rw [List.length_append, show (X10L.take 8).length = 8 from rfl]; omega) (by show tot (A ++ X10L.take 8) + 150 ≤ tot A + 1301; rw [tot_app, show tot (X10L.take 8) = 1018 from rfl]; omega) (by show (A ++ X10L.take 8).length < 2147483647; rw [List.length_append, show (X10L.take 8).length = 8 from rfl]; omega) ?_
  refine y_putFa (k' := 15) ff_X10_39 rfl rfl dX10_init_79 (zsh_app (G := G) (zsh_app (G := G) hs)) (by decide) ?_
  dsimp only
  have e8 : ((A ++ X10L.take 8).length : Int) + 1 = A.length + (8 + 1) := by rw [List.length_append, show (X10L.take 8).length = 8 from rfl]; omega
  rw [e8, List.append_assoc]
  have c9 := MI_step (k := 15) (v := ((A.length : Int) + (8 + 1))) c8 (by omega) (by omega) (by decide +kernel) (by omega)
  generalize zup (znw G8 ((A.length : Int) + (8 + 1))) r 15 ((A.length : Int) + (8 + 1)) = G9 at c9 ⊢
  generalize znw h8 ((A.length : Int) + (8 + 1)) = h9 at c9 ⊢
  show zW zX0 l mX10_init _ _ Q _ _ _ (A ++ X10L.take 9, G9) h9
  refine z_aload_n dX10_init_82 rfl (by omega) ?_
  refine z_bipush dX10_init_83 ⟨by decide, by decide⟩ ?_
  refine y_puti (k' := 18) fl_X10_42 rfl dX10_init_85 (zsh_app (G := G) hs) (by decide) ?_
  replace c9 := MI_put (b := 18) (v := -9) c9 (by omega)
  generalize zup h9 r 18 (-9) = hp9 at c9 ⊢
  refine z_aload_n dX10_init_88 rfl (by omega) ?_
  refine z_bipush dX10_init_89 ⟨by decide, by decide⟩ ?_
  refine z_newi (N := 27) dX10_init_91 karrI rfl (by decide) (by show (A ++ X10L.take 9).length + 1 ≤ A.length + 16; rw [List.length_append, show (X10L.take 9).length = 9 from rfl]; omega) (by show tot (A ++ X10L.take 9) + 27 ≤ tot A + 1301; rw [tot_app, show tot (X10L.take 9) = 1168 from rfl]; omega) (by show (A ++ X10L.take 9).length < 2147483647; rw [List.length_append, show (X10L.take 9).length = 9 from rfl]; omega) ?_
  refine y_putFa (k' := 23) ff_X10_45 rfl rfl dX10_init_93 (zsh_app (G := G) (zsh_app (G := G) hs)) (by decide) ?_
  dsimp only
  have e9 : ((A ++ X10L.take 9).length : Int) + 1 = A.length + (9 + 1) := by rw [List.length_append, show (X10L.take 9).length = 9 from rfl]; omega
  rw [e9, List.append_assoc]
  have c10 := MI_step (k := 23) (v := ((A.length : Int) + (9 + 1))) c9 (by omega) (by omega) (by decide +kernel) (by omega)
  generalize zup (znw G9 ((A.length : Int) + (9 + 1))) r 23 ((A.length : Int) + (9 + 1)) = G10 at c10 ⊢
  generalize znw hp9 ((A.length : Int) + (9 + 1)) = h10 at c10 ⊢
  show zW zX0 l mX10_init _ _ Q _ _ _ (A ++ X10L.take 10, G10) h10
  refine z_aload_n dX10_init_96 rfl (by omega) ?_
  refine z_bipush dX10_init_97 ⟨by decide, by decide⟩ ?_
  refine z_newi (N := 18) dX10_init_99 karrI rfl (by decide) (by show (A ++ X10L.take 10).length + 1 ≤ A.length + 16; rw [List.length_append, show (X10L.take 10).length = 10 from rfl]; omega) (by show tot (A ++ X10L.take 10) + 18 ≤ tot A + 1301; rw [tot_app, show tot (X10L.take 10) = 1195 from rfl]; omega) (by show (A ++ X10L.take 10).length < 2147483647; rw [List.length_append, show (X10L.take 10).length = 10 from rfl]; omega) ?_
  refine y_putFa (k' := 25) ff_X10_48 rfl rfl dX10_init_101 (zsh_app (G := G) (zsh_app (G := G) hs)) (by decide) ?_
  dsimp only
  have e10 : ((A ++ X10L.take 10).length : Int) + 1 = A.length + (10 + 1) := by rw [List.length_append, show (X10L.take 10).length = 10 from rfl]; omega
  rw [e10, List.append_assoc]
  have c11 := MI_step (k := 25) (v := ((A.length : Int) + (10 + 1))) c10 (by omega) (by omega) (by decide +kernel) (by omega)
  generalize zup (znw G10 ((A.length : Int) + (10 + 1))) r 25 ((A.length : Int) + (10 + 1)) = G11 at c11 ⊢
  generalize znw h10 ((A.length : Int) + (10 + 1)) = h11 at c11 ⊢
  show zW zX0 l mX10_init _ _ Q _ _ _ (A ++ X10L.take 11, G11) h11
  refine z_aload_n dX10_init_104 rfl (by omega) ?_
  refine z_bipush dX10_init_105 ⟨by decide, by decide⟩ ?_
  refine z_newi (N := 6) dX10_init_107 karrI rfl (by decide) (by show (A ++ X10L.take 11).length + 1 ≤ A.length + 16; rw [List.length_append, show (X10L.take 11).length = 11 from rfl]; omega) (by show tot (A ++ X10L.take 11) + 6 ≤ tot A + 1301; rw [tot_app, show tot (X10L.take 11) = 1213 from rfl]; omega) (by show (A ++ X10L.take 11).length < 2147483647; rw [List.length_append, show (X10L.take 11).length = 11 from rfl]; omega) ?_
  refine y_putFa (k' := 26) ff_X10_51 rfl rfl dX10_init_109 (zsh_app (G := G) (zsh_app (G := G) hs)) (by decide) ?_
  dsimp only
  have e11 : ((A ++ X10L.take 11).length : Int) + 1 = A.length + (11 + 1) := by rw [List.length_append, show (X10L.take 11).length = 11 from rfl]; omega
  rw [e11, List.append_assoc]
  have c12 := MI_step (k := 26) (v := ((A.length : Int) + (11 + 1))) c11 (by omega) (by omega) (by decide +kernel) (by omega)
  generalize zup (znw G11 ((A.length : Int) + (11 + 1))) r 26 ((A.length : Int) + (11 + 1)) = G12 at c12 ⊢
  generalize znw h11 ((A.length : Int) + (11 + 1)) = h12 at c12 ⊢
  show zW zX0 l mX10_init _ _ Q _ _ _ (A ++ X10L.take 12, G12) h12
  refine z_aload_n dX10_init_112 rfl (by omega) ?_
  refine z_bipush dX10_init_113 ⟨by decide, by decide⟩ ?_
  refine z_newi (N := 6) dX10_init_115 karrI rfl (by decide) (by show (A ++ X10L.take 12).length + 1 ≤ A.length + 16; rw [List.length_append, show (X10L.take 12).length = 12 from rfl]; omega) (by show tot (A ++ X10L.take 12) + 6 ≤ tot A + 1301; rw [tot_app, show tot (X10L.take 12) = 1219 from rfl]; omega) (by show (A ++ X10L.take 12).length < 2147483647; rw [List.length_append, show (X10L.take 12).length = 12 from rfl]; omega) ?_
  refine y_putFa (k' := 27) ff_X10_54 rfl rfl dX10_init_117 (zsh_app (G := G) (zsh_app (G := G) hs)) (by decide) ?_
  dsimp only
  have e12 : ((A ++ X10L.take 12).length : Int) + 1 = A.length + (12 + 1) := by rw [List.length_append, show (X10L.take 12).length = 12 from rfl]; omega
  rw [e12, List.append_assoc]
  have c13 := MI_step (k := 27) (v := ((A.length : Int) + (12 + 1))) c12 (by omega) (by omega) (by decide +kernel) (by omega)
  generalize zup (znw G12 ((A.length : Int) + (12 + 1))) r 27 ((A.length : Int) + (12 + 1)) = G13 at c13 ⊢
  generalize znw h12 ((A.length : Int) + (12 + 1)) = h13 at c13 ⊢
  show zW zX0 l mX10_init _ _ Q _ _ _ (A ++ X10L.take 13, G13) h13
  refine z_aload_n dX10_init_120 rfl (by omega) ?_
  refine z_iconst dX10_init_121 ⟨by decide, by decide⟩ ?_
  refine z_newi (N := 4) dX10_init_122 karrI rfl (by decide) (by show (A ++ X10L.take 13).length + 1 ≤ A.length + 16; rw [List.length_append, show (X10L.take 13).length = 13 from rfl]; omega) (by show tot (A ++ X10L.take 13) + 4 ≤ tot A + 1301; rw [tot_app, show tot (X10L.take 13) = 1225 from rfl]; omega) (by show (A ++ X10L.take 13).length < 2147483647; rw [List.length_append, show (X10L.take 13).length = 13 from rfl]; omega) ?_
  refine y_putFa (k' := 29) ff_X10_57 rfl rfl dX10_init_124 (zsh_app (G := G) (zsh_app (G := G) hs)) (by decide) ?_
  dsimp only
  have e13 : ((A ++ X10L.take 13).length : Int) + 1 = A.length + (13 + 1) := by rw [List.length_append, show (X10L.take 13).length = 13 from rfl]; omega
  rw [e13, List.append_assoc]
  have c14 := MI_step (k := 29) (v := ((A.length : Int) + (13 + 1))) c13 (by omega) (by omega) (by decide +kernel) (by omega)
  generalize zup (znw G13 ((A.length : Int) + (13 + 1))) r 29 ((A.length : Int) + (13 + 1)) = G14 at c14 ⊢
  generalize znw h13 ((A.length : Int) + (13 + 1)) = h14 at c14 ⊢
  show zW zX0 l mX10_init _ _ Q _ _ _ (A ++ X10L.take 14, G14) h14
  refine z_aload_n dX10_init_127 rfl (by omega) ?_
  refine z_bipush dX10_init_128 ⟨by decide, by decide⟩ ?_
  refine z_newi (N := 8) dX10_init_130 karrI rfl (by decide) (by show (A ++ X10L.take 14).length + 1 ≤ A.length + 16; rw [List.length_append, show (X10L.take 14).length = 14 from rfl]; omega) (by show tot (A ++ X10L.take 14) + 8 ≤ tot A + 1301; rw [tot_app, show tot (X10L.take 14) = 1229 from rfl]; omega) (by show (A ++ X10L.take 14).length < 2147483647; rw [List.length_append, show (X10L.take 14).length = 14 from rfl]; omega) ?_
  refine y_putFa (k' := 30) ff_X10_60 rfl rfl dX10_init_132 (zsh_app (G := G) (zsh_app (G := G) hs)) (by decide) ?_
  dsimp only
  have e14 : ((A ++ X10L.take 14).length : Int) + 1 = A.length + (14 + 1) := by rw [List.length_append, show (X10L.take 14).length = 14 from rfl]; omega
  rw [e14, List.append_assoc]
  have c15 := MI_step (k := 30) (v := ((A.length : Int) + (14 + 1))) c14 (by omega) (by omega) (by decide +kernel) (by omega)
  generalize zup (znw G14 ((A.length : Int) + (14 + 1))) r 30 ((A.length : Int) + (14 + 1)) = G15 at c15 ⊢
  generalize znw h14 ((A.length : Int) + (14 + 1)) = h15 at c15 ⊢
  show zW zX0 l mX10_init _ _ Q _ _ _ (A ++ X10L.take 15, G15) h15
  refine z_aload_n dX10_init_135 rfl (by omega) ?_
  refine z_bipush dX10_init_136 ⟨by decide, by decide⟩ ?_
  refine z_newi (N := 64) dX10_init_138 karrI rfl (by decide) (by show (A ++ X10L.take 15).length + 1 ≤ A.length + 16; rw [List.length_append, show (X10L.take 15).length = 15 from rfl]; omega) (by show tot (A ++ X10L.take 15) + 64 ≤ tot A + 1301; rw [tot_app, show tot (X10L.take 15) = 1237 from rfl]; omega) (by show (A ++ X10L.take 15).length < 2147483647; rw [List.length_append, show (X10L.take 15).length = 15 from rfl]; omega) ?_
  refine y_putFa (k' := 33) ff_X10_63 rfl rfl dX10_init_140 (zsh_app (G := G) (zsh_app (G := G) hs)) (by decide) ?_
  dsimp only
  have e15 : ((A ++ X10L.take 15).length : Int) + 1 = A.length + (15 + 1) := by rw [List.length_append, show (X10L.take 15).length = 15 from rfl]; omega
  rw [e15, List.append_assoc]
  have c16 := MI_step (k := 33) (v := ((A.length : Int) + (15 + 1))) c15 (by omega) (by omega) (by decide +kernel) (by omega)
  generalize zup (znw G15 ((A.length : Int) + (15 + 1))) r 33 ((A.length : Int) + (15 + 1)) = G16 at c16 ⊢
  generalize znw h15 ((A.length : Int) + (15 + 1)) = h16 at c16 ⊢
  show zW zX0 l mX10_init _ _ Q _ _ _ (A ++ X10L.take 16, G16) h16
  refine z_ret (v := none) dX10_init_143 trivial (by show (A ++ X10L.take 16).length = A.length + 16; rw [List.length_append]; rfl) (by show tot (A ++ X10L.take 16) = tot A + 1301; rw [tot_app]; rfl) rfl ?_
  rw [show X10L.take 16 = X10L from rfl]
  subst hz
  exact hQ _ _ c16
