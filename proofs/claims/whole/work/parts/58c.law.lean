/-! The law begins. -/
theorem ap_239 : SHL.take 239 ++ [(9, 34)] = SHL.take 240 := by decide +kernel
theorem ap_240 : SHL.take 240 ++ X10L = SHL := by decide +kernel
theorem tt_240 : tot (SHL.take 240) = 1619 := by decide +kernel
theorem tt_all : tot SHL = 2920 := by decide +kernel
theorem zs_240_240 {G : zH} : zsh (SHL.take 240, G) 240 = some (9, 34) := by
  unfold zsh
  rw [if_pos (by decide)]
  show (SHL.take 240)[239]? = some (9, 34)
  decide +kernel
theorem lw_entry {l : Launch} {b L : Nat} {xs : Nat → Int32} {Q : zQt} (hL : L ≤ 2048) (hQ : ∀ g h, Q (some (zi 1)) (SHL, g) h) (g0 h0 : zH) : zW (zXs b L xs) l mL_law SHL.length (tot SHL) Q 0 [some (zr (zsr b)), none, none, none] [] ([], g0) h0 := by
  refine z_new zcl_X9 hdf_X9 lc_L_7 dL_law_0 (by show 0 + 1 ≤ SHL.length; rw [SHL_len]; decide) (by show 0 + 10 ≤ tot SHL; rw [tt_all]; decide) (by show 0 < 2147483647; decide) ?_
  dsimp only
  rw [show ((([] : List (Nat × Nat)).length : Int)) + 1 = 1 from rfl, show ([] : List (Nat × Nat)) ++ [(8, 10)] = SHL.take 1 by decide +kernel]
  refine z_dup dL_law_3 rfl ?_
  refine z_callI (T := mX9_init) kX9_init (by omega) ml_L_9 ⟨by decide, by decide⟩ dL_law_4 (Nat.le_of_ble_eq_true rfl) (by show (SHL.take 1).length + 238 ≤ SHL.length; rw [bl 1 (by decide), SHL_len]; decide) (by show tot (SHL.take 1) + 1575 ≤ tot SHL; rw [tt_1, tt_all]; decide) (qX9_init (fun b => znw_at) (fun G1 h1 sg w0 w1 => ?_))
  refine z_astore_n dL_law_7 (by decide) rfl (by omega) lss_4_1 ?_
  refine z_new zcl_X10 hdf_X10 lc_L_10 dL_law_8 (by show (SHL.take 239).length + 1 ≤ SHL.length; rw [bl 239 (by decide), SHL_len]; decide) (by show tot (SHL.take 239) + 34 ≤ tot SHL; rw [tt_239, tt_all]; decide) (by show (SHL.take 239).length < 2147483647; rw [bl 239 (by decide)]; decide) ?_
  dsimp only
  rw [show ((SHL.take 239).length : Int) + 1 = 240 by rw [bl 239 (by decide)]; decide, ap_239]
  refine z_dup dL_law_11 rfl ?_
  refine z_callI (T := mX10_init) kX10_init (by omega) ml_L_12 ⟨by decide, by decide⟩ dL_law_12 (Nat.le_of_ble_eq_true rfl) (by show (SHL.take 240).length + 16 ≤ SHL.length; rw [bl 240 (by decide), SHL_len]; decide) (by show tot (SHL.take 240) + 1301 ≤ tot SHL; rw [tt_240, tt_all]; decide) (qX10_init (r := 240) zs_240_240 (by rw [bl 240 (by decide)]; decide) (fun G2 h2 mi => ?_))
  rw [ap_240]
  rw [show ((SHL.take 240).length : Int) = 240 by rw [bl 240 (by decide)]; decide] at mi
  refine z_astore_n dL_law_15 (by decide) rfl (by omega) lss_4_2 ?_
  refine z_iconst dL_law_16 ⟨by decide, by decide⟩ ?_
  refine z_istore_n dL_law_17 (by decide) rfl lss_4_3 ?_
  have K := lw_loop (l := l) (b := b) (L := L) (xs := xs) (Q := Q) hL hQ (L + 1) 0 G2 h2 4 (by omega) (by omega) (IV_0 sg w0 w1 mi)
  exact K
/-! The tables' words, as the class's cells want them. -/
theorem zKn {s : State} {args : Array Value} (hz : ∀ w ∈ zT, w.before args s = true) {ci : Nat} {C : String} {T : u_T} {N : Nat} (z : zCl ci C T N) : ∃ x : ClassId × (Nat → Nat), ∀ q : vw_C, zcl[ci]? = some q → u_Kn s q.1 q.2.1 q.2.2 x.1 x.2 := by
  obtain ⟨cC, iS, hk⟩ := u_known (ws := zT) hz z.2.2.1 (hz _ z.2.2.2.2.2.1)
  refine ⟨(cC, iS), fun q hq => ?_⟩
  rw [z.1] at hq
  have e := Option.some.inj hq
  rw [← e]
  exact hk
theorem zKx {s : State} {args : Array Value} (hz : ∀ w ∈ zT, w.before args s = true) (c : Nat) : ∃ x : ClassId × (Nat → Nat), ∀ q : vw_C, zcl[c]? = some q → u_Kn s q.1 q.2.1 q.2.2 x.1 x.2 := by
  by_cases h : c < 10
  · rcases (show c = 0 ∨ c = 1 ∨ c = 2 ∨ c = 3 ∨ c = 4 ∨ c = 5 ∨ c = 6 ∨ c = 7 ∨ c = 8 ∨ c = 9 by omega) with rfl | rfl | rfl | rfl | rfl | rfl | rfl | rfl | rfl | rfl
    · exact zKn hz zcl_X0
    · exact zKn hz zcl_X2
    · exact zKn hz zcl_X3
    · exact zKn hz zcl_X4
    · exact zKn hz zcl_X5
    · exact zKn hz zcl_X6
    · exact zKn hz zcl_X7
    · exact zKn hz zcl_X8
    · exact zKn hz zcl_X9
    · exact zKn hz zcl_X10
  · obtain ⟨x, -⟩ := zKn hz zcl_X0
    refine ⟨x, fun q hq => ?_⟩
    have e : zcl[c]? = none := List.getElem?_eq_none (by show 10 ≤ c; omega)
    rw [e] at hq
    cases hq
theorem zK_at {s : State} {args : Array Value} (hts : ∀ w ∈ lw_tbl, w.before args s = true) : ∃ (D : va_G) (I : zI), zK D I s := by
  have hz : ∀ w ∈ zT, w.before args s = true := fun w hw => hts w (List.mem_filter.mp hw).1
  obtain ⟨cI, kI, pI, a1, a2, a3⟩ := Cond.arrayClass_spec (hz _ karrI)
  obtain ⟨cZ, kZ, pZ, b1, b2, b3⟩ := Cond.arrayClass_spec (hz _ karrZ)
  have o6 : (Cond.arrayOver (.object RX6)).before args s = true := hts _ (List.mem_of_getElem? (i := 226) (by decide +kernel))
  have o5 : (Cond.arrayOver (.object RX5)).before args s = true := hts _ (List.mem_of_getElem? (i := 237) (by decide +kernel))
  obtain ⟨pN, cN, kN, c1, _, c2, c3, c4⟩ := Cond.arrayOver_spec o6
  obtain ⟨pM, cM, kM, d1, _, d2, d3, d4⟩ := Cond.arrayOver_spec o5
  refine ⟨(fun c => (Classical.choose (zKx hz c)).1, fun c => (Classical.choose (zKx hz c)).2), fun n => if n = 0 then cI else if n = 1 then cZ else if n = 2 then cN else cM, ⟨fun c q hq => Classical.choose_spec (zKx hz c) q hq, fun k q hq => ?_⟩, ?_, va_AO.of o6, va_AO.of o5⟩
  · match k, hq with
    | 0, hq => cases hq; exact ⟨fun n z => ⟨fun k h => (by cases h), kI, a2, pI, a3⟩, a1⟩
    | 1, hq => cases hq; exact ⟨fun n z => ⟨fun k h => (by cases h), kZ, b2, pZ, b3⟩, b1⟩
    | 2, hq => cases hq; exact ⟨fun n z => ⟨fun k h => (by cases h), kN, c2, pN, c3⟩, kN, pN, c2, c3, c1, c4⟩
    | 3, hq => cases hq; exact ⟨fun n z => ⟨fun k h => (by cases h), kM, d2, pM, d3⟩, kM, pM, d2, d3, d1, d4⟩
    | k + 4, hq => cases hq
  · exact List.forall_mem_cons.mpr ⟨va_Nw.of rfl (hts _ (List.mem_of_getElem? (i := 85) (by decide +kernel))), List.forall_mem_cons.mpr ⟨va_Nw.of rfl (hts _ (List.mem_of_getElem? (i := 115) (by decide +kernel))), List.forall_mem_cons.mpr ⟨va_Nw.of rfl (hts _ (List.mem_of_getElem? (i := 187) (by decide +kernel))), List.forall_mem_cons.mpr ⟨va_Nw.of rfl (hts _ (List.mem_of_getElem? (i := 227) (by decide +kernel))), List.forall_mem_cons.mpr ⟨va_Nw.of rfl (hts _ (List.mem_of_getElem? (i := 240) (by decide +kernel))), List.forall_mem_cons.mpr ⟨va_Nw.of rfl (hts _ (List.mem_of_getElem? (i := 259) (by decide +kernel))), List.forall_mem_cons.mpr ⟨va_Nw.of rfl (hts _ (List.mem_of_getElem? (i := 280) (by decide +kernel))), List.forall_mem_cons.mpr ⟨va_Nw.of rfl (hts _ (List.mem_of_getElem? (i := 297) (by decide +kernel))), List.forall_mem_cons.mpr ⟨va_Nw.of rfl (hts _ (List.mem_of_getElem? (i := 302) (by decide +kernel))), List.forall_mem_cons.mpr ⟨va_Nw.of rfl (hts _ (List.mem_of_getElem? (i := 456) (by decide +kernel))), List.forall_mem_cons.mpr ⟨va_Nw.of rfl (hts _ (List.mem_of_getElem? (i := 645) (by decide +kernel))), fun _ h => absurd h List.not_mem_nil⟩⟩⟩⟩⟩⟩⟩⟩⟩⟩⟩
