/-! THE ENTRY -/
theorem lw_mem {w : Cond} (i : Nat) (h : lw_tbl[i]? = some w) : w ∈ lw_tbl := List.mem_of_getElem? h
theorem vw_all {P : Nat → vw_C → Prop} (h0 : P 0 (RX2, TX2, 10)) (h1 : P 1 (RX4, TX4, 3)) (h2 : P 2 (RX5, TX5, 5)) (h3 : P 3 (RX6, TX6, 6)) (h4 : P 4 (RX7, TX7, 3)) (h5 : P 5 (RX8, TX8, 3)) (h6 : P 6 (RX9, TX9, 20)) (h7 : P 7 (RX10, TX10, 7)) (h8 : P 8 (RX11, TX11, 12)) (h9 : P 9 (RX12, TX12, 25)) : ∀ (c : Nat) (q : vw_C), vwCl[c]? = some q → P c q := by
  intro c q hq
  match c, hq with
  | 0, hq => cases hq; exact h0
  | 1, hq => cases hq; exact h1
  | 2, hq => cases hq; exact h2
  | 3, hq => cases hq; exact h3
  | 4, hq => cases hq; exact h4
  | 5, hq => cases hq; exact h5
  | 6, hq => cases hq; exact h6
  | 7, hq => cases hq; exact h7
  | 8, hq => cases hq; exact h8
  | 9, hq => cases hq; exact h9
  | c + 10, hq => cases hq
theorem ent_K {args : Array Value} {s : State} (hts : ∀ w ∈ lw_tbl, w.before args s = true) : ∃ (D : va_G) (dA : Nat → ClassId), va_K D vwCl [(dA 0, .byte), (dA 1, .int), (dA 2, .object "PainBank$State"), (dA 3, .long)] s := by
  have hg : ∀ w ∈ lw_good, w.before args s = true := fun w hw => hts w (List.mem_filter.mp hw).1
  obtain ⟨c0, i0, k0⟩ := u_known (C := RX2) (T := TX2) (N := 10) (n := 10) hg inG0 (hg _ wi_0)
  obtain ⟨c1, i1, k1⟩ := u_known (C := RX4) (T := TX4) (N := 3) (n := 3) hg inG1 (hg _ wi_1)
  obtain ⟨c2, i2, k2⟩ := u_known (C := RX5) (T := TX5) (N := 5) (n := 5) hg inG2 (hg _ wi_2)
  obtain ⟨c3, i3, k3⟩ := u_known (C := RX6) (T := TX6) (N := 6) (n := 6) hg inG3 (hg _ wi_3)
  obtain ⟨c4, i4, k4⟩ := u_known (C := RX7) (T := TX7) (N := 3) (n := 3) hg inG4 (hg _ wi_4)
  obtain ⟨c5, i5, k5⟩ := u_known (C := RX8) (T := TX8) (N := 3) (n := 3) hg inG5 (hg _ wi_5)
  obtain ⟨c6, i6, k6⟩ := u_known (C := RX9) (T := TX9) (N := 20) (n := 20) hg inG6 (hg _ wi_6)
  obtain ⟨c7, i7, k7⟩ := u_known (C := RX10) (T := TX10) (N := 7) (n := 7) hg inG7 (hg _ wi_7)
  obtain ⟨c8, i8, k8⟩ := u_known (C := RX11) (T := TX11) (N := 12) (n := 12) hg inG8 (hg _ wi_8)
  obtain ⟨c9, i9, k9⟩ := u_known (C := RX12) (T := TX12) (N := 25) (n := 25) hg inG9 (hg _ wi_9)
  obtain ⟨ab, kab, cob, hb1, hb2, hb3⟩ := Cond.arrayClass_spec (args := args) (first := s) (o := none) (s := s) (idx := []) (hg _ wr_byte)
  obtain ⟨ai, kai, coi, hi1, hi2, hi3⟩ := Cond.arrayClass_spec (args := args) (first := s) (o := none) (s := s) (idx := []) (hg _ wr_int)
  obtain ⟨al, kal, col, hl1, hl2, hl3⟩ := Cond.arrayClass_spec (args := args) (first := s) (o := none) (s := s) (idx := []) (hg _ wr_long)
  obtain ⟨cs, as, kas, g1, g2, g3, g4, g5⟩ := Cond.arrayOver_spec (args := args) (first := s) (o := none) (s := s) (idx := []) (hts (Cond.arrayOver (.object "PainBank$State")) (lw_mem 285 (by decide +kernel)))
  refine ⟨(fun c => [c0, c1, c2, c3, c4, c5, c6, c7, c8, c9].getD c c0, fun c => [i0, i1, i2, i3, i4, i5, i6, i7, i8, i9].getD c i0), fun c => [ab, ai, as, al].getD c ab, vw_all (P := fun c q => u_Kn s q.1 q.2.1 q.2.2 ([c0, c1, c2, c3, c4, c5, c6, c7, c8, c9].getD c c0) ([i0, i1, i2, i3, i4, i5, i6, i7, i8, i9].getD c i0)) k0 k1 k2 k3 k4 k5 k6 k7 k8 k9, fun k q hk => ?_⟩
  match k, hk with
  | 0, hk => cases hk; exact ⟨fun n z => ⟨fun k h => (by cases h), kab, hb2, cob, hb3⟩, hb1⟩
  | 1, hk => cases hk; exact ⟨fun n z => ⟨fun k h => (by cases h), kai, hi2, coi, hi3⟩, hi1⟩
  | 2, hk => cases hk; exact ⟨fun n z => ⟨fun k h => (by cases h), kas, g3, cs, g4⟩, ⟨kas, cs, g3, g4, g1, g5⟩⟩
  | 3, hk => cases hk; exact ⟨fun n z => ⟨fun k h => (by cases h), kal, hl2, col, hl3⟩, hl1⟩
  | k + 4, hk => cases hk
theorem xs_get : ∀ x ∈ jzXs, ∃ i, i < 5 ∧ jzXs.getD i "" = x := by
  intro x hx
  obtain ⟨i, hi⟩ := List.getElem?_of_mem hx
  have hl : i < jzXs.length := (List.getElem?_eq_some_iff.mp hi).1
  exact ⟨i, hl, by rw [List.getD_eq_getElem?_getD, hi]; rfl⟩
/-- the places outside -/
def jzO3 (b f : Nat) (fa : Nat → Nat × Nat) : Nat → Nat := fun k => if k = 0 then b else if k = 2000 then f else if 1001 ≤ k then (fa (k - 1001)).2 else (fa (k - 1)).1
theorem jzO3_0 {b f : Nat} {fa : Nat → Nat × Nat} : jzO3 b f fa 0 = b := rfl
theorem jzO3_f {b f : Nat} {fa : Nat → Nat × Nat} : jzO3 b f fa 2000 = f := rfl
theorem jzO3_1 {b f : Nat} {fa : Nat → Nat × Nat} {k : Nat} (h : k < 33) : jzO3 b f fa (k + 1) = (fa k).1 := by
  unfold jzO3
  rw [if_neg (by omega), if_neg (by omega), if_neg (by omega), Nat.add_sub_cancel]
theorem jzO3_2 {b f : Nat} {fa : Nat → Nat × Nat} {k : Nat} (h : k < 33) : jzO3 b f fa (k + 1001) = (fa k).2 := by
  unfold jzO3
  rw [if_neg (by omega), if_neg (by omega), if_pos (by omega), Nat.add_sub_cancel]
set_option maxRecDepth 20000 in
theorem ent_G {s : State} {args : Array Value} {b L : Nat} {xs : Nat → Int32} (hts : ∀ w ∈ lw_tbl, w.before args s = true) (hgv : (Jvm.Cond.and given_1 narrow_1).before args s = true) (hX : va_X b L xs s s.heap) (hbl : b < s.heap.size) : ∃ G : jzG, G.2.2.1 0 = b ∧ G.2.2.2.1 = L ∧ jzEx G (fun q => s.heap.size ≤ q) s s.heap ∧ va_K G.1 vwCl (jzTy G) s := by
  have hA : ∀ a : Nat, a < s.heap.size → ¬ (fun q : Nat => s.heap.size ≤ q) a := fun a ha => Nat.not_le.mpr ha
  have hn : ∀ w ∈ nFlat, w.before args s = true := flat_of_before _ hgv
  obtain ⟨D, dA, hK⟩ := ent_K hts
  have tx : ∀ k, ∃ q : Nat × Nat, k < 33 → ((tmS (txRp.getD k ("", 0))).eval args s none [] s = some (.ref q.1) ∧ va_O "java/lang/String" q.1 (fun q => s.heap.size ≤ q) s s.heap ∧ va_OF "java/lang/String" "coder" "B" (.int 0) q.1 (fun q => s.heap.size ≤ q) s s.heap ∧ va_OF "java/lang/String" "value" "[B" (.ref q.2) q.1 (fun q => s.heap.size ≤ q) s s.heap ∧ va_T .byte q.2 (jzBy.getD k []).length (fun j => .int (Int32.ofNat ((jzBy.getD k []).getD j 0))) (fun q => s.heap.size ≤ q) s s.heap) := by
    intro k
    by_cases hk : k < 33
    · obtain ⟨q, hq⟩ := tx_at (args := args) (s := s) (A := fun q => s.heap.size ≤ q) (r := txRp.getD k ("", 0)) (bs := jzBy.getD k []) (jzBy_len k hk) hA (fun w hw => hn w (ix_mem (tx_ix k hk) w hw))
      exact ⟨q, fun _ => hq⟩
    · exact ⟨(0, 0), fun h => absurd h hk⟩
  have fa : ∃ fa : Nat → Nat × Nat, ∀ k, k < 33 → ((tmS (txRp.getD k ("", 0))).eval args s none [] s = some (.ref (fa k).1) ∧ va_O "java/lang/String" (fa k).1 (fun q => s.heap.size ≤ q) s s.heap ∧ va_OF "java/lang/String" "coder" "B" (.int 0) (fa k).1 (fun q => s.heap.size ≤ q) s s.heap ∧ va_OF "java/lang/String" "value" "[B" (.ref (fa k).2) (fa k).1 (fun q => s.heap.size ≤ q) s s.heap ∧ va_T .byte (fa k).2 (jzBy.getD k []).length (fun j => .int (Int32.ofNat ((jzBy.getD k []).getD j 0))) (fun q => s.heap.size ≤ q) s s.heap) := ⟨fun k => Classical.choose (tx k), fun k hk => Classical.choose_spec (tx k) hk⟩
  obtain ⟨fa, hfa⟩ := fa
  have sv := st_ev (f := fun k => (fa k).1) hn (fun k hk => (hfa k hk).1)
  have hsr := ix_mem sr_ix
  have hfm : ∃ f : Nat, va_Z "jdk/internal/util/Preconditions" "SIOOBE_FORMATTER" "Ljava/util/function/BiFunction;" .null (fun q => s.heap.size ≤ q) s s.heap ∨ va_Z "jdk/internal/util/Preconditions" "SIOOBE_FORMATTER" "Ljava/util/function/BiFunction;" (.ref f) (fun q => s.heap.size ≤ q) s s.heap := by
    rcases va_Zqof (A := fun q => s.heap.size ≤ q) (hts (Cond.laysStatic "jdk/internal/util/Preconditions" "SIOOBE_FORMATTER" "Ljava/util/function/BiFunction;") (lw_mem 785 (by decide +kernel))) (hts (Cond.initialized "jdk/internal/util/Preconditions") (lw_mem 113 (by decide +kernel))) (hn (Cond.isRef (.static "jdk/internal/util/Preconditions" "SIOOBE_FORMATTER" "Ljava/util/function/BiFunction;")) (List.mem_of_getElem? (i := 5) (by decide +kernel))) hA with h | ⟨t, h⟩
    · exact ⟨0, Or.inl h⟩
    · exact ⟨t, Or.inr h⟩
  obtain ⟨f, hf⟩ := hfm
  refine ⟨(D, dA, jzO3 b f fa, L, xs), rfl, rfl, ⟨?_, ?_, ⟨?_, hf⟩, fun k hk => ?_, fun r hr => ?_, fun w hw hk => va_Nw.of (jzWk_tab hk) (hts w hw), va_AO.of (hts _ (lw_mem 285 (by decide +kernel))), fun x hx y hy n => ?_, hX, hA b hbl, hbl⟩, hK⟩
  · exact vx_Zqof (hts (Cond.laysStatic "java/lang/Throwable" "UNASSIGNED_STACK" "[Ljava/lang/StackTraceElement;") (lw_mem 882 (by decide +kernel))) (hts (Cond.initialized "java/lang/Throwable") (lw_mem 115 (by decide +kernel))) (hn (Cond.isRef (.static "java/lang/Throwable" "UNASSIGNED_STACK" "[Ljava/lang/StackTraceElement;")) (List.mem_of_getElem? (i := 9) (by decide +kernel))) hA
  · exact vx_Zqof (hts (Cond.laysStatic "java/lang/Throwable" "SUPPRESSED_SENTINEL" "Ljava/util/List;") (lw_mem 884 (by decide +kernel))) (hts (Cond.initialized "java/lang/Throwable") (lw_mem 115 (by decide +kernel))) (hn (Cond.isRef (.static "java/lang/Throwable" "SUPPRESSED_SENTINEL" "Ljava/util/List;")) (List.mem_of_getElem? (i := 10) (by decide +kernel))) hA
  · exact va_Zof (hts (Cond.laysStatic "java/lang/String" "COMPACT_STRINGS" "Z") (lw_mem 769 (by decide +kernel))) (hts (Cond.initialized "java/lang/String") (lw_mem 111 (by decide +kernel))) (Cond.eq_int (hn (Cond.eq (.static "java/lang/String" "COMPACT_STRINGS" "Z") (.int 1)) (List.mem_of_getElem? (i := 4) (by decide +kernel))) rfl) hA
  · have h := hfa k hk
    have e1 : jzO3 b f fa (k + 1) = (fa k).1 := jzO3_1 hk
    have e2 : jzO3 b f fa (k + 1001) = (fa k).2 := jzO3_2 hk
    rw [← e1, ← e2] at h
    dsimp only
    exact h.2
  · have hk := st_lt r hr
    have h := sv r hr
    show vk_R r.1 r.2.1 (jzTx.getD r.2.2 "") (jzO3 b f fa (r.2.2 + 1)) s
    rw [jzO3_1 hk]
    exact vk_R.of (A := args) (hts _ (hsr _ (List.mem_map.mpr ⟨r, hr, rfl⟩))) h
  · obtain ⟨i, hi, ex⟩ := xs_get x hx
    obtain ⟨j, hj, ey⟩ := xs_get y hy
    have h := nc_ix i hi j hj (fun e => n (by rw [← ex, ← ey, e]))
    rw [ex, ey] at h
    exact va_Nc.of (hn _ (List.mem_of_getElem? h))
theorem Fr_nil {s t : State} {o : Outcome} {L : List Loc} {mc ms : Nat} (h : FrameEnd s o t L mc ms) (hL : ∀ q ∈ L, s.heap.size ≤ q.base) : Framed s o t [] mc ms := by
  obtain ⟨h1, h2, g1, g2, g3, g4, g5, g6⟩ := h
  refine ⟨h1, h2, g1, g2, g3, g4, g5, fun a c ha => ?_⟩
  obtain ⟨c', k1, k2, k3, k4⟩ := g6 a c ha
  refine ⟨c', k1, k2, k3, fun i _ => k4 i (fun hi => ?_)⟩
  have := hL _ hi
  have hlt : a < s.heap.size := (Array.getElem?_eq_some_iff.mp ha).1
  exact absurd hlt (Nat.not_lt.mpr this)
