/-! Rows of calls, of a method's start and end. -/
def zMk (T : zMd) (n : Nat) : Prop := plainName (zy T).cls = true ∧ (zy T).cls ≠ "java/lang/invoke/MethodHandle" ∧ (zy T).cls ≠ "java/lang/invoke/VarHandle" ∧ (parseMethodDescriptor (zy T).desc).map (fun d => d.parameters.length) = some n ∧ Cond.code (zy T) (zb T) (znl T) (zrt T) ∈ zT ∧ Cond.initialized (zy T).cls ∈ zT
def zMi (T : zMd) (n : Nat) : Prop := zMk T n ∧ Cond.instanceMethod (zy T) ∈ zT ∧ Cond.selects (zy T).cls (zy T) (zy T) ∈ zT
def zMs (T : zMd) (n : Nat) : Prop := zMk T n ∧ Cond.static (zy T) ∈ zT
def zMc (T : zMd) (n : Nat) : Prop := zMk T n ∧ Cond.instanceMethod (zy T) ∈ zT ∧ (zy T).name = "<init>" ∧ zrt T = none
theorem zcat_sum (base : Nat) (st : List zV) : ((st.map (zc base)).map fun v => v.category).sum = (st.map zcat).sum := by
  rw [List.map_map]
  congr 1
  apply List.map_congr_left
  intro v _
  exact zc_cat base v
theorem zws_good (T : zMd) (h : Cond.code (zy T) (zb T) (znl T) (zrt T) ∈ zT) : GoodIn zT (.code (zy T) (zb T) (znl T) (zrt T) :: zT) := zT_good (fun w hw => (List.mem_cons.mp hw).elim (fun q => q ▸ h) id)
section Z4
variable {p : Program} {l : Launch} {e : Env} {R : Room} {s : State} {m : MethodId} {args : Array Value} {below : List Frame} {meth : Method} {c : Code} {Z : State → Prop} {base : Nat} {D : va_G} {I : zI}
theorem z_cont {H : Heap} {locs : List Loc} {cells slots mc ms pc k1 n1 : Nat} {lsr : Array Slot} {st0 rest : List Value} {Q : zQt} {a : Array Value} (hr : va_Run p l e R s m args below meth c H locs cells slots mc ms (F0 m pc lsr st0) rest (zQc base D I k1 n1 Q a) (fun q => base ≤ q)) (hS : va_S (fun q => base ≤ q) s.heap H locs)
    (kk : ∀ (v : Option zV) (sh : zS) (h : zH) (H1 : Heap) (locs1 : List Loc), zokO v → Q v sh h → zP base D I sh h H1 → sh.1.length = k1 → ztot sh = n1 → va_S (fun q => base ≤ q) s.heap H1 locs1 → W p l e R s m args below meth c H1 locs1 (cells + mc) (slots + ms) Z (F0 m (pc + 3) lsr ((v.map (zc base)).toList ++ rest))) : W p l e R s m args below meth c H locs cells slots Z (F0 m pc lsr st0) := by
  intro T hT X
  obtain ⟨v, st₀, t, T', L, g0, X', hL, e1, e2, ⟨⟨vz, sh, h, hv, hok, hq, hp, hk1, hn1⟩, hz, hk⟩, stp⟩ := hr T hT X
  have hv : v = vz.map (zc base) := by cases hv; rfl
  subst hv
  rw [g0] at hz hk
  rw [← e1] at hp hz hk
  obtain ⟨t2, a1, b1⟩ := kk vz sh h T'.heap (locs ++ L) hok hq hp hk1 hn1 ⟨Nat.le_trans hS.1 hz, fun q h1 h2 => by rw [hk q (Nat.lt_of_lt_of_le h1 hS.1) h2]; exact hS.2.1 q h1 h2, fun q hq => by
      rcases List.mem_append.mp hq with h | h
      · exact hS.2.2 q h
      · exact hL q h⟩ T' rfl X'
  exact ⟨t2, stp t2 a1, b1⟩
theorem z_blind {as : List zV} {sh : zS} {h : zH} : FrameBlind (va_Pc (as.map (zc base)) (fun U => (∀ v ∈ as, zok v) ∧ U.heap.size = base + sh.1.length ∧ zP base D I sh h U.heap ∧ zK D I U)) := fun a U g mk q => ⟨q.1, q.2.1, q.2.2.1, q.2.2.2.1, zK.same (u := U) (U := U.calling g mk a) rfl q.2.2.2.2⟩
end Z4
section Z5
variable {X : State → Nat → Prop} {l : Launch} {M : zMd} {B1 B2 : Nat} {Q : zQt} {pc : Nat} {ls : List (Option zV)} {st : List zV} {sh : zS} {h : zH}
theorem z_after {T : zMd} {p : Program} {e : Env} {R : Room} {s : State} {m : MethodId} {args : Array Value} {below : List Frame} {meth : Method} {c : Code} {Z : State → Prop} {base : Nat} {D : va_G} {I : zI} {k0 n0 : Nat} (E : zE X p l e R s m args below meth c Z base D I k0 n0 M B1 B2 Q) {H : Heap} {locs : List Loc} {cells slots : Nat} {lsr : Array Slot} {a : Array Value} {st0 : List Value} (h1 : cells + k0 = sh.1.length) (h2 : slots + n0 = ztot sh) (hS : va_S (fun q => base ≤ q) s.heap H locs) (hL : zL base (znl M) lsr ls) (hst : ∀ v ∈ st, zok v) (hls : ∀ v, some v ∈ ls → zok v)
    (hr : va_Run p l e R s m args below meth c H locs cells slots (zmc T) (zms T) (F0 m pc lsr st0) (st.map (zc base)) (zQc base D I (sh.1.length + zmc T) (ztot sh + zms T) (fun v sh' h' => zW X l M B1 B2 Q (pc + 3) ls (v.toList ++ st) sh' h') a) (fun q => base ≤ q)) : W p l e R s m args below meth c H locs cells slots Z (F0 m pc lsr st0) := by
  refine z_cont hr hS fun v sh' h' H1 locs1 hok hq hp hk1 hn1 hS1 => ?_
  have K := hq p e R s m args below meth c Z base D I k0 n0 E H1 locs1 (cells + zmc T) (slots + zms T) lsr (by omega) (by omega) hp hS1 hL (fun u hu => by
    rcases List.mem_append.mp hu with q | q
    · cases v with
      | none => cases q
      | some v => rw [List.mem_singleton.mp q]; exact hok
    · exact hst u q) hls
  have hm : (v.toList ++ st).map (zc base) = (v.map (zc base)).toList ++ st.map (zc base) := by cases v <;> simp
  rw [hm] at K
  exact K
/-- a call of an object's method: the callee's contract ends where the caller goes on -/
theorem z_callV {T : zMd} {idx n ci N : Nat} {r : Int} {As stk : List zV} (hT : zMi T n) (hl : Cond.methodLink (zy M).cls idx (zy T) ∈ zT) (hfr : zfr T + 1 ≤ zfr M ∧ 8 + (znl T + 11) + zlo T ≤ zlo M) (hd : decode (zb M) pc = .ok (.invokevirtual idx, 3)) (hstk : stk = As.reverse ++ zr r :: st) (hn : As.length = n) (hcat : (st.map zcat).sum ≤ 8) (hs : zsh sh r = some (ci, N)) (hci : ci < 100 ∧ (zcl[ci]?).map (fun q => q.1) = some (zy T).cls) (hb1 : sh.1.length + zmc T ≤ B1) (hb2 : ztot sh + zms T ≤ B2) (hC : zC l T (zr r :: As) sh h (fun v sh' h' => zW X l M B1 B2 Q (pc + 3) ls (v.toList ++ st) sh' h')) : zW X l M B1 B2 Q pc ls stk sh h := by
  subst hstk
  intro p e R s m args below meth c Z base D I k0 n0 E H locs cells slots lsr h1 h2 hP hS hL hst hls T9 hT9 X9
  have hsz := zsize X9 hT9 E.2.2.2.2.1 h1 hP hS
  revert T9
  show W p l e R s m args below meth c H locs cells slots Z (F0 m pc lsr ((As.reverse ++ zr r :: st).map (zc base)))
  obtain ⟨⟨a1, a2, a3, a4, a5, a6⟩, a7, a8⟩ := hT
  have hz : zc base (zr r) = .ref (base + (r.toNat - 1)) := zrf_pos (zsh_spec hs).1
  obtain ⟨⟨C, T0, N0⟩, hq1, hq2⟩ : ∃ q, zcl[ci]? = some q ∧ q.1 = (zy T).cls := by
    cases hq : zcl[ci]? with
    | none => rw [hq] at hci; cases hci.2
    | some q => rw [hq] at hci; exact ⟨q, rfl, Option.some.inj hci.2⟩
  have hw := zws_sh (base := base) (I := I) (h := h) hs
  rw [zce_obj hci.1] at hw
  have hok : ∀ v ∈ As.reverse ++ zr r :: st, zok v := hst
  have hokA : ∀ v ∈ zr r :: As, zok v := fun v hv => hok v (by simp only [List.mem_append, List.mem_reverse, List.mem_cons] at hv ⊢; rcases hv with q | q; exact Or.inr (Or.inl q); exact Or.inl q)
  refine z_after (T := T) (sh := sh) (ls := ls) (st := st) E h1 h2 hS hL (fun v hv => hok v (by simp [hv])) hls ?_ (a := (Value.ref (base + (r.toNat - 1)) :: As.map (zc base)).toArray)
  have hrecv := va_recv E.2.1.1 hP.1 hq1 hw
  rw [hq2] at hrecv
  exact va_runV (C := (zy T).cls) (b := base + (r.toNat - 1)) (As := As.map (zc base)) E.1 (hC base D I) (cwV n E.1.2.2.2.2 (zT_good (fun w hw => by
      rcases List.mem_append.mp (show w ∈ ([.methodLink (zy M).cls idx (zy T), .instanceMethod (zy T), .selects (zy T).cls (zy T) (zy T), .initialized (zy T).cls] : List Cond) ++ _ from hw) with q | q
      · simp only [List.mem_cons, List.not_mem_nil, or_false] at q
        rcases q with rfl | rfl | rfl | rfl
        · exact hl
        · exact a7
        · exact a8
        · exact a6
      · exact (List.mem_cons.mp q).elim (fun z => z ▸ a5) id)) rfl rfl rfl ⟨rfl, a2, a3, a4⟩ ⟨Nat.le_trans hfr.1 E.2.2.1.1, Nat.le_trans hfr.2 E.2.2.1.2⟩)
    ⟨z_blind, hrecv, fun U hU hW => ⟨by simp [hz], hokA, by rw [hU]; exact hsz, by rw [hU]; exact hP, E.2.1.warm hW⟩⟩ rfl (by simpa using hn) hL.2.1 (by simp [hz]) (lv_room (by rw [zcat_sum]; exact hcat)) hd ⟨by have := E.2.2.2.1.1; omega, by have := E.2.2.2.1.2; omega⟩
theorem z_callS {T : zMd} {idx n : Nat} {As stk : List zV} (hT : zMs T n) (hl : Cond.methodLink (zy M).cls idx (zy T) ∈ zT) (hfr : zfr T + 1 ≤ zfr M ∧ 8 + (znl T + 11) + zlo T ≤ zlo M) (hd : decode (zb M) pc = .ok (.invokestatic idx, 3)) (hstk : stk = As.reverse ++ st) (hn : As.length = n) (hcat : (st.map zcat).sum ≤ 8) (hb1 : sh.1.length + zmc T ≤ B1) (hb2 : ztot sh + zms T ≤ B2) (hC : zC l T As sh h (fun v sh' h' => zW X l M B1 B2 Q (pc + 3) ls (v.toList ++ st) sh' h')) : zW X l M B1 B2 Q pc ls stk sh h := by
  subst hstk
  intro p e R s m args below meth c Z base D I k0 n0 E H locs cells slots lsr h1 h2 hP hS hL hst hls T9 hT9 X9
  have hsz := zsize X9 hT9 E.2.2.2.2.1 h1 hP hS
  revert T9
  show W p l e R s m args below meth c H locs cells slots Z (F0 m pc lsr ((As.reverse ++ st).map (zc base)))
  obtain ⟨⟨a1, a2, a3, a4, a5, a6⟩, a7⟩ := hT
  refine z_after (T := T) (sh := sh) (ls := ls) (st := st) E h1 h2 hS hL (fun v hv => hst v (by simp [hv])) hls ?_ (a := (As.map (zc base)).toArray)
  exact va_runS (As := As.map (zc base)) E.1 (hC base D I) ⟨callB_of n E.1.2.2.2.2 (zws_good T a5) rfl rfl rfl (E.1.2.2.2.2 _ a6) (E.1.2.2.2.2 _ hl) ⟨a2, a3, a4⟩ ⟨Nat.le_trans hfr.1 E.2.2.1.1, Nat.le_trans hfr.2 E.2.2.1.2⟩, E.1.2.2.2.2 _ a7⟩
    ⟨z_blind, fun U hU hW => ⟨rfl, fun v hv => hst v (by simp [hv]), by rw [hU]; exact hsz, by rw [hU]; exact hP, E.2.1.warm hW⟩⟩ rfl (by simpa using hn) hL.2.1 (by simp) (lv_room (by rw [zcat_sum]; exact hcat)) hd ⟨by have := E.2.2.2.1.1; omega, by have := E.2.2.2.1.2; omega⟩
theorem z_callSN {T : zMd} {idx n : Nat} {host : String} {As stk : List zV} (hT : zMs T n) (hl : ((zy M).cls, idx, zy T, host) ∈ zNest) (hfr : zfr T + 1 ≤ zfr M ∧ 8 + (znl T + 11) + zlo T ≤ zlo M) (hd : decode (zb M) pc = .ok (.invokestatic idx, 3)) (hstk : stk = As.reverse ++ st) (hn : As.length = n) (hcat : (st.map zcat).sum ≤ 8) (hb1 : sh.1.length + zmc T ≤ B1) (hb2 : ztot sh + zms T ≤ B2) (hC : zC l T As sh h (fun v sh' h' => zW X l M B1 B2 Q (pc + 3) ls (v.toList ++ st) sh' h')) : zW X l M B1 B2 Q pc ls stk sh h := by
  subst hstk
  intro p e R s m args below meth c Z base D I k0 n0 E H locs cells slots lsr h1 h2 hP hS hL hst hls T9 hT9 X9
  have hsz := zsize X9 hT9 E.2.2.2.2.1 h1 hP hS
  revert T9
  show W p l e R s m args below meth c H locs cells slots Z (F0 m pc lsr ((As.reverse ++ st).map (zc base)))
  obtain ⟨⟨a1, a2, a3, a4, a5, a6⟩, a7⟩ := hT
  refine z_after (T := T) (sh := sh) (ls := ls) (st := st) E h1 h2 hS hL (fun v hv => hst v (by simp [hv])) hls ?_ (a := (As.map (zc base)).toArray)
  exact va_runSN (As := As.map (zc base)) E.1 (hC base D I) ⟨va_cnB n E.1.2.2.2.2 (zws_good T a5) rfl rfl rfl (E.2.1.2.1 _ hl) (E.1.2.2.2.2 _ a6) ⟨a2, a3, a4⟩ ⟨Nat.le_trans hfr.1 E.2.2.1.1, Nat.le_trans hfr.2 E.2.2.1.2⟩, E.1.2.2.2.2 _ a7, trivial⟩
    ⟨z_blind, fun U hU hW => ⟨rfl, fun v hv => hst v (by simp [hv]), by rw [hU]; exact hsz, by rw [hU]; exact hP, E.2.1.warm hW⟩⟩ rfl (by simpa using hn) hL.2.1 (by simp) (lv_room (by rw [zcat_sum]; exact hcat)) hd ⟨by have := E.2.2.2.1.1; omega, by have := E.2.2.2.1.2; omega⟩
/-- a constructor, without arguments -/
theorem z_callI {T : zMd} {idx : Nat} {r : Int} (hT : zMc T 0) (h0 : 0 < r) (hl : Cond.methodLink (zy M).cls idx (zy T) ∈ zT) (hfr : zfr T + 1 ≤ zfr M ∧ 8 + (znl T + 11) + zlo T ≤ zlo M) (hd : decode (zb M) pc = .ok (.invokespecial idx, 3)) (hcat : (st.map zcat).sum ≤ 8) (hb1 : sh.1.length + zmc T ≤ B1) (hb2 : ztot sh + zms T ≤ B2) (hC : zC l T [zr r] sh h (fun v sh' h' => zW X l M B1 B2 Q (pc + 3) ls (v.toList ++ st) sh' h')) : zW X l M B1 B2 Q pc ls (zr r :: st) sh h := by
  intro p e R s m args below meth c Z base D I k0 n0 E H locs cells slots lsr h1 h2 hP hS hL hst hls T9 hT9 X9
  have hsz := zsize X9 hT9 E.2.2.2.2.1 h1 hP hS
  revert T9
  show W p l e R s m args below meth c H locs cells slots Z (F0 m pc lsr ((zr r :: st).map (zc base)))
  obtain ⟨⟨a1, a2, a3, a4, a5, a6⟩, a7, a8, a9⟩ := hT
  have hz : zc base (zr r) = .ref (base + (r.toNat - 1)) := zrf_pos h0
  refine z_after (T := T) (sh := sh) (ls := ls) (st := st) E h1 h2 hS hL (zok_tl hst) hls ?_ (a := [Value.ref (base + (r.toNat - 1))].toArray)
  have hM := hC base D I
  rw [a9] at hM a5
  exact va_runI (b := base + (r.toNat - 1)) (As := []) E.1 hM (cwI 0 E.1.2.2.2.2 (zT_good (fun w hw => (List.mem_cons.mp hw).elim (fun q => q ▸ a5) id)) rfl rfl rfl (E.1.2.2.2.2 _ a6) (E.1.2.2.2.2 _ hl) (E.1.2.2.2.2 _ a7) a8 ⟨a2, a3, a4⟩ ⟨Nat.le_trans hfr.1 E.2.2.1.1, Nat.le_trans hfr.2 E.2.2.1.2⟩)
    ⟨z_blind, fun U hU hW => ⟨by simp [hz], fun v hv => hst v (by simp at hv; simp [hv]), by rw [hU]; exact hsz, by rw [hU]; exact hP, E.2.1.warm hW⟩⟩ rfl rfl hL.2.1 (by simp [hz]) (lv_room (by rw [zcat_sum]; exact hcat)) hd ⟨by have := E.2.2.2.1.1; omega, by have := E.2.2.2.1.2; omega⟩
theorem z_callIN {T : zMd} {idx : Nat} {host : String} {r : Int} (hT : zMc T 0) (h0 : 0 < r) (hl : ((zy M).cls, idx, zy T, host) ∈ zNest) (hfr : zfr T + 1 ≤ zfr M ∧ 8 + (znl T + 11) + zlo T ≤ zlo M) (hd : decode (zb M) pc = .ok (.invokespecial idx, 3)) (hcat : (st.map zcat).sum ≤ 8) (hb1 : sh.1.length + zmc T ≤ B1) (hb2 : ztot sh + zms T ≤ B2) (hC : zC l T [zr r] sh h (fun v sh' h' => zW X l M B1 B2 Q (pc + 3) ls (v.toList ++ st) sh' h')) : zW X l M B1 B2 Q pc ls (zr r :: st) sh h := by
  intro p e R s m args below meth c Z base D I k0 n0 E H locs cells slots lsr h1 h2 hP hS hL hst hls T9 hT9 X9
  have hsz := zsize X9 hT9 E.2.2.2.2.1 h1 hP hS
  revert T9
  show W p l e R s m args below meth c H locs cells slots Z (F0 m pc lsr ((zr r :: st).map (zc base)))
  obtain ⟨⟨a1, a2, a3, a4, a5, a6⟩, a7, a8, a9⟩ := hT
  have hz : zc base (zr r) = .ref (base + (r.toNat - 1)) := zrf_pos h0
  refine z_after (T := T) (sh := sh) (ls := ls) (st := st) E h1 h2 hS hL (zok_tl hst) hls ?_ (a := [Value.ref (base + (r.toNat - 1))].toArray)
  have hM := hC base D I
  rw [a9] at hM a5
  exact va_runIN (b := base + (r.toNat - 1)) (As := []) E.1 hM ⟨va_cnB 0 E.1.2.2.2.2 (zT_good (fun w hw => (List.mem_cons.mp hw).elim (fun q => q ▸ a5) id)) rfl rfl rfl (E.2.1.2.1 _ hl) (E.1.2.2.2.2 _ a6) ⟨a2, a3, a4⟩ ⟨Nat.le_trans hfr.1 E.2.2.1.1, Nat.le_trans hfr.2 E.2.2.1.2⟩, a8, E.1.2.2.2.2 _ a7⟩
    ⟨z_blind, fun U hU hW => ⟨by simp [hz], fun v hv => hst v (by simp at hv; simp [hv]), by rw [hU]; exact hsz, by rw [hU]; exact hP, E.2.1.warm hW⟩⟩ rfl rfl hL.2.1 (by simp [hz]) (lv_room (by rw [zcat_sum]; exact hcat)) hd ⟨by have := E.2.2.2.1.1; omega, by have := E.2.2.2.1.2; omega⟩
/-- Object's constructor -/
theorem z_objInit {idx : Nat} {r : Int} (h0 : 0 < r) (hw : Cond.instanceMethod objectInit ∈ zT ∧ Cond.code objectInit ⟨#[0xb1]⟩ 1 none ∈ zT) (hl : Cond.methodLink (zy M).cls idx objectInit ∈ zT) (hfr : 1 ≤ zfr M) (hlo : (st.map zcat).sum + 12 ≤ zlo M) (hd : decode (zb M) pc = .ok (.invokespecial idx, 3)) (K : zW X l M B1 B2 Q (pc + 3) ls st sh h) : zW X l M B1 B2 Q pc ls (zr r :: st) sh h := by
  intro p e R s m args below meth c Z base D I k0 n0 E H locs cells slots lsr h1 h2 hP hS hL hst hls
  have hz : zc base (zr r) = .ref (base + (r.toNat - 1)) := zrf_pos h0
  have K := K p e R s m args below meth c Z base D I k0 n0 E H locs cells slots lsr h1 h2 hP hS hL (zok_tl hst) hls
  simp only [List.map_cons, hz]
  refine W.objInit E.1.1 E.1.2.1 E.1.2.2.2.1 (E.1.2.2.2.2 _ hl) (E.1.2.2.2.2 _ hw.1) (E.1.2.2.2.2 _ hw.2) rfl (hL.2.1.trans E.1.2.2.1.symm) rfl hd (by have := E.2.2.1.1; omega) ?_ K
  show 2 * 0 + _ + 12 ≤ _
  rw [zcat_sum]
  have := E.2.2.1.2
  omega
end Z5
/-- the locals with which a method begins -/
def zsl (as : List zV) : List (Option zV) := as.flatMap (fun v => if zcat v = 2 then [some v, none] else [some v])
def zent (nL : Nat) (as : List zV) : List (Option zV) := zsl as ++ List.replicate (nL - (zsl as).length) none
theorem zsl_len (base : Nat) (as : List zV) : (lg_sl (as.map (zc base))).length = (zsl as).length := by
  induction as with
  | nil => rfl
  | cons v as ih =>
    have e1 : lg_sl ((v :: as).map (zc base)) = (if (zc base v).category = 2 then [.val (zc base v), .second] else [.val (zc base v)]) ++ lg_sl (as.map (zc base)) := rfl
    have e2 : zsl (v :: as) = (if zcat v = 2 then [some v, none] else [some v]) ++ zsl as := rfl
    rw [e1, e2, List.length_append, List.length_append, ih, zc_cat]
    split <;> rfl
theorem zsl_get (base : Nat) (as : List zV) : ∀ (i : Nat) (v : zV), (zsl as)[i]? = some (some v) → (lg_sl (as.map (zc base)))[i]? = some (.val (zc base v)) := by
  induction as with
  | nil => intro i v h; simp [zsl] at h
  | cons u as ih =>
    intro i v h
    have e1 : lg_sl ((u :: as).map (zc base)) = (if (zc base u).category = 2 then [.val (zc base u), .second] else [.val (zc base u)]) ++ lg_sl (as.map (zc base)) := rfl
    have e2 : zsl (u :: as) = (if zcat u = 2 then [some u, none] else [some u]) ++ zsl as := rfl
    rw [e2] at h
    rw [e1, zc_cat]
    by_cases hc : zcat u = 2
    · rw [if_pos hc] at h ⊢
      match i, h with
      | 0, h => simp at h; simp [h]
      | 1, h => simp at h
      | j + 2, h => simp at h ⊢; exact ih j v h
    · rw [if_neg hc] at h ⊢
      match i, h with
      | 0, h => simp at h; simp [h]
      | j + 1, h => simp at h ⊢; exact ih j v h
theorem zsl_mem {as : List zV} {v : zV} (h : some v ∈ zsl as) : v ∈ as := by
  obtain ⟨u, hu, hv⟩ := List.mem_flatMap.mp h
  split at hv
  · simp at hv; rw [hv]; exact hu
  · simp at hv; rw [hv]; exact hu
/-- A METHOD'S CONTRACT, out of its walk from pc 0 -/
theorem z_method {l : Launch} {M : zMd} {n : Nat} {Q : zQt} {as : List zV} {sh : zS} {h : zH} {ls : List (Option zV)} (hM : zMk M n) (hls : zent (znl M) as = ls) (hlen : (zsl as).length ≤ znl M) (K : (∀ v ∈ as, zok v) → (∀ r k, r32 (h r k)) → zW zX0 l M (sh.1.length + zmc M) (ztot sh + zms M) Q 0 ls [] sh h) : zC l M as sh h Q := by
  subst hls
  intro base D I
  refine Met.ofW (cc := zb M) (maxL := znl M) (ret := zrt M) hM.1 rfl ?_
  intro p e s m args below meth c s₁ B hml hv
  obtain ⟨rfl, hok, hsz, hP, hK⟩ := hv
  have hts := atoms_spec (ws := .code (zy M) (zb M) (znl M) (zrt M) :: zT) B.pre
  have hlocks := B.notSynchronized
  rw [lg_entry_eq]
  have hl := lv_entry (as.map (zc base)) (n := znl M) (by rw [zsl_len]; exact hlen)
  refine K hok hP.2 p e _ s m _ below meth c _ base D I sh.1.length (ztot sh) ⟨⟨B.exec, B.bytes, hml, findClass_of_methodNamed B.named, fun w hw => hts w (List.mem_cons_of_mem _ hw)⟩, hK, ⟨Nat.le_refl _, Nat.le_refl _⟩, ⟨Nat.add_comm _ _, Nat.add_comm _ _⟩, hsz, ⟨(name_of_methodNamed B.named B.method).1, trivial⟩, ?_⟩ s.heap [] 0 0 _ (Nat.zero_add _) (Nat.zero_add _) hP va_S.rf ⟨?_, hl.1, hl.2.1, ?_⟩ (fun v hv => by cases hv) (fun v hv => hok v (zsl_mem (by
      rcases List.mem_append.mp hv with q | q
      · exact q
      · exact absurd (List.eq_of_mem_replicate q) (by simp))))
  · intro pc lsr H locs cells slots v sh' h' hd hfit hokv hq hB1 hB2 hc1 hc2 hP' hS'
    have hce : cells = zmc M := by omega
    have hse : slots = zms M := by omega
    subst hce hse
    have hend : ∀ t : State, t.heap = H → s.WarmedH t.vm → zQc base D I (sh.1.length + zmc M) (ztot sh + zms M) Q (as.map (zc base)).toArray s (.returned (v.map (zc base))) t := fun t ht hW => ⟨⟨v, sh', h', rfl, hokv, hq, by rw [ht]; exact hP', hB1, hB2⟩, hS'.F ht⟩
    have hr := B.returns
    cases v with
    | none =>
      cases hrt : zrt M with
      | some ty => rw [hrt] at hfit; cases ty <;> exact hfit.elim
      | none => exact W.vret B.exec B.bytes (hr.trans hrt) hend hS'.2.2 hd hlocks
    | some v =>
      rcases v with x | x | x
      · cases hrt : zrt M with
        | none => rw [hrt] at hfit; exact hfit.elim
        | some ty =>
          rw [hrt] at hfit
          cases ty <;> first | exact hfit.elim | skip
          case int => exact W.iret B.exec B.bytes (hr.trans hrt) hend hS'.2.2 hd hlocks
          case boolean =>
            refine W.zret (ty := .boolean) B.exec B.bytes (hr.trans hrt) ?_ hend hS'.2.2 hd hlocks
            exact hfit.elim (fun q => by subst q; exact zb0.1) (fun q => by subst q; exact zb1.1)
      · cases hrt : zrt M with
        | none => rw [hrt] at hfit; exact hfit.elim
        | some ty => rw [hrt] at hfit; cases ty <;> exact hfit.elim
      · cases hrt : zrt M with
        | none => rw [hrt] at hfit; exact hfit.elim
        | some ty =>
          rw [hrt] at hfit
          cases ty <;> first | exact hfit.elim | skip
          case long => exact W.lret B.exec B.bytes (hr.trans hrt) hend hS'.2.2 hd hlocks
  · simp [zent]; omega
  · intro i v hi
    have hi2 : i < (zsl as).length := by
      by_cases q : i < (zsl as).length
      · exact q
      · rw [zent, List.getElem?_append_right (by omega)] at hi
        exact absurd (List.eq_of_mem_replicate (List.mem_of_getElem? hi)) (by simp)
    rw [zent, List.getElem?_append_left hi2] at hi
    rw [List.getElem?_toArray, List.getElem?_append_left (by rw [zsl_len]; exact hi2)]
    exact zsl_get base as i v hi
