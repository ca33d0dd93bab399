/-! MORE ROWS: constructors, copies of arrays, texts, tables -/
theorem jS_met {G : jzG} {d : Nat} {M : jzM} {As : List jzV} {h h1 : jzH} {mc ms : Nat} (hsp : jS G d M As h mc ms (rV h1)) (l : Launch) (hl : l.stackTraces = false) (ad : Nat → Nat) (sz : Nat) (hA : ∀ v ∈ As, jok h.1.length v) (hok : jzok h) : Met l M.1 (jzws M) (jzrm d mc ms) (jzPc G As h ad sz) (jzQc G (rV h1) (va_A (jzC G ad h) sz) h.1.length ad) mc ms (va_A (jzC G ad h) sz) := by
  have k := hsp _ (fun _ _ q => q) l hl ad sz hA hok
  intro p e ha hc hk s m args below hf happ hP hK
  obtain ⟨n, o, a1, a2, a3, q⟩ := k p e ha hc hk s m args below hf happ hP hK
  refine ⟨n, o, a1, a2, a3, ?_⟩
  rcases q with q | ⟨q9, rfl, E, ce, L2, hx, -⟩
  · exact q
  · obtain ⟨⟨h2, ad2, hq, -⟩, -⟩ := hx
    exact absurd hq.1 (by intro z; cases z)
section Rows6
variable {G : jzG} {M : jzM} {d pc rc rs : Nat} {Q : jzO → jzH → Prop} {L : List (Option jzV)} {S : List jzV} {h h1 : jzH}
theorem jz_runM {A : Nat → Prop} {p : Program} {l : Launch} {e : Env} {R : Room} {s : State} {m : MethodId} {args : Array Value} {below : List Frame} {meth : Method} {c : Code} {ad : Nat → Nat} {n1 : Nat} {H : Heap} {locs : List Loc} {cells slots mc' ms' : Nat} {g : JFrame} {rest : List Value} {av : Array Value} {Q1 Q2 : jzO → jzH → Prop} {free : Addr → Prop} (hq : ∀ o h, Q1 o h → Q2 o h)
    (hr : va_Run p l e R s m args below meth c H locs cells slots mc' ms' g rest (jzQc G Q1 A n1 ad av) free) : vx_Run p l e R s m args below meth c H locs cells slots mc' ms' g rest (jzQc G Q2 A n1 ad av) (jzXc G Q2 A n1 ad) free := by
  intro T hT X
  obtain ⟨v, st₀, t, T', L2, h0, X', hL2, e1, e2, ⟨⟨rv, h2, ad2, hv, hq2, hrest⟩, hF2⟩, st⟩ := hr T hT X
  exact Or.inl ⟨v, st₀, t, T', L2, h0, X', hL2, e1, e2, ⟨⟨rv, h2, ad2, hv, hq _ _ hq2, hrest⟩, hF2⟩, st⟩
def jCI (own : String) (idx n : Nat) (M : jzM) : Prop := Cond.methodLink own idx M.1 ∈ lw_good ∧ Cond.instanceMethod M.1 ∈ lw_good ∧ Cond.initialized M.1.cls ∈ lw_good ∧ Cond.code M.1 M.2.1 M.2.2.1 none ∈ lw_good ∧ M.1.name = "<init>" ∧ (M.1.cls ≠ "java/lang/invoke/MethodHandle" ∧ M.1.cls ≠ "java/lang/invoke/VarHandle" ∧ (parseMethodDescriptor M.1.desc).map (fun d => d.parameters.length) = some n) ∧ M.2.2.2.2 = [] ∧ M.2.2.1 ≤ 45 ∧ M.2.2.2.1 = none
def jCN (own : String) (idx n : Nat) (M : jzM) (host : String) : Prop := Cond.methodLinkNest own idx M.1 host ∈ lw_tbl ∧ Cond.instanceMethod M.1 ∈ lw_good ∧ Cond.initialized M.1.cls ∈ lw_good ∧ Cond.code M.1 M.2.1 M.2.2.1 none ∈ lw_good ∧ M.1.name = "<init>" ∧ (M.1.cls ≠ "java/lang/invoke/MethodHandle" ∧ M.1.cls ≠ "java/lang/invoke/VarHandle" ∧ (parseMethodDescriptor M.1.desc).map (fun d => d.parameters.length) = some n) ∧ M.2.2.2.2 = [] ∧ M.2.2.1 ≤ 45 ∧ M.2.2.2.1 = none
theorem jz_wsi {M' : jzM} (ht : M'.2.2.2.2 = []) (hr : M'.2.2.2.1 = none) : jzws M' = Cond.code M'.1 M'.2.1 M'.2.2.1 none :: lw_good := by rw [jz_wse ht, hr]
theorem j_callI {M' : jzM} {idx n i mc' ms' rc' rs' : Nat} {As : List jzV} (hd : decode M.2.1 pc = .ok (.invokespecial idx, 3)) (hw : jCI M.1.cls idx n M') (hn : As.length = n) (h8 : (S.map jct).sum ≤ 8) (h9 : mc' + rc' ≤ rc) (h10 : ms' + rs' ≤ rs)
    (hsp : jS G d M' (jR (some i) :: As) h mc' ms' (rV h1)) (k : jW G M (d + 1) Q (pc + 3) L S h1 rc' rs') : jW G M (d + 1) Q pc L (As.reverse ++ jR (some i) :: S) h rc rs := by
  intro p l e R s m args below meth c A Qc XC mc ms free n0 ad0 ad ls H locs cells slots hB hF hW hL hS hc hs
  obtain ⟨w1, w2, w3, w4, w5, w6, w7, w8, w9⟩ := hw
  have hAs : ∀ v ∈ jR (some i) :: As, jok h.1.length v := by
    intro v hv
    rcases List.mem_cons.mp hv with rfl | q
    · exact hS _ (List.mem_append_right _ List.mem_cons_self)
    · exact hS _ (List.mem_append_left _ (List.mem_reverse.mpr q))
  have hS2 : ∀ v ∈ S, jok h.1.length v := fun v hv => hS v (List.mem_append_right _ (List.mem_cons_of_mem _ hv))
  have hrm := jB_room hB
  have hsp2 := jS_met hsp l hB.2.2.2.2.2.1 ad H.size hAs hW.2.2.2.1
  have hst : (As.reverse ++ jR (some i) :: S).map (jzv G ad) = (As.map (jzv G ad)).reverse ++ .ref (ad i) :: S.map (jzv G ad) := by
    rw [List.map_append, List.map_reverse]; rfl
  refine jz_use (st0 := (As.reverse ++ jR (some i) :: S).map (jzv G ad)) (av := (Value.ref (ad i) :: As.map (jzv G ad)).toArray) hB hF hW hL hS2 (mc' := mc') (ms' := ms') (rc' := rc') (rs' := rs') (by omega) (by omega) (jz_runM (Q1 := rV h1) (fun o h2 hq => by obtain ⟨rfl, rfl⟩ := hq; exact k) ?_)
  exact va_runI (As := As.map (jzv G ad)) (b := ad i) (n := n) (nL := M.2.2.1) ⟨hB.1, hB.2.1, hB.2.2.1, hB.2.2.2.1, hB.2.2.2.2.1⟩ hsp2 (cwI n hB.2.2.2.2.1 (jz_goodws w7 (by rw [w9]; exact w4)) (jz_wsi w7 w9) rfl rfl (hB.2.2.2.2.1 _ w3) (hB.2.2.2.2.1 _ w1) (hB.2.2.2.2.1 _ w2) w5 w6 ⟨by show d + 10 + 1 ≤ R.frames; omega, by show 8 + (M'.2.2.1 + 11) + (64 * d + 200) ≤ R.locals; omega⟩) ⟨jzPc_blind, jz_pre (As := jR (some i) :: As) hB hW⟩ rfl (by rw [List.length_map]; exact hn) hL.1 hst (lv_room (by rw [jct_sum]; exact h8)) hd ⟨by omega, by omega⟩
theorem j_callN {M' : jzM} {host : String} {idx n i mc' ms' rc' rs' : Nat} {As : List jzV} (hd : decode M.2.1 pc = .ok (.invokespecial idx, 3)) (hw : jCN M.1.cls idx n M' host) (hn : As.length = n) (h8 : (S.map jct).sum ≤ 8) (h9 : mc' + rc' ≤ rc) (h10 : ms' + rs' ≤ rs)
    (hsp : jS G d M' (jR (some i) :: As) h mc' ms' (rV h1)) (k : jW G M (d + 1) Q (pc + 3) L S h1 rc' rs') : jW G M (d + 1) Q pc L (As.reverse ++ jR (some i) :: S) h rc rs := by
  intro p l e R s m args below meth c A Qc XC mc ms free n0 ad0 ad ls H locs cells slots hB hF hW hL hS hc hs
  obtain ⟨w1, w2, w3, w4, w5, w6, w7, w8, w9⟩ := hw
  have hAs : ∀ v ∈ jR (some i) :: As, jok h.1.length v := by
    intro v hv
    rcases List.mem_cons.mp hv with rfl | q
    · exact hS _ (List.mem_append_right _ List.mem_cons_self)
    · exact hS _ (List.mem_append_left _ (List.mem_reverse.mpr q))
  have hS2 : ∀ v ∈ S, jok h.1.length v := fun v hv => hS v (List.mem_append_right _ (List.mem_cons_of_mem _ hv))
  have hrm := jB_room hB
  have hsp2 := jS_met hsp l hB.2.2.2.2.2.1 ad H.size hAs hW.2.2.2.1
  have hst : (As.reverse ++ jR (some i) :: S).map (jzv G ad) = (As.map (jzv G ad)).reverse ++ .ref (ad i) :: S.map (jzv G ad) := by
    rw [List.map_append, List.map_reverse]; rfl
  refine jz_use (st0 := (As.reverse ++ jR (some i) :: S).map (jzv G ad)) (av := (Value.ref (ad i) :: As.map (jzv G ad)).toArray) hB hF hW hL hS2 (mc' := mc') (ms' := ms') (rc' := rc') (rs' := rs') (by omega) (by omega) (jz_runM (Q1 := rV h1) (fun o h2 hq => by obtain ⟨rfl, rfl⟩ := hq; exact k) ?_)
  exact va_runIN (As := As.map (jzv G ad)) (b := ad i) (n := n) (nL := M.2.2.1) ⟨hB.1, hB.2.1, hB.2.2.1, hB.2.2.2.1, hB.2.2.2.2.1⟩ hsp2 ⟨va_cnB n hB.2.2.2.2.1 (jz_goodws w7 (by rw [w9]; exact w4)) (jz_wsi w7 w9) rfl rfl ((jB_ex hB).2.2.2.2.2.1 _ w1 rfl) (hB.2.2.2.2.1 _ w3) w6 ⟨by show d + 10 + 1 ≤ R.frames; omega, by show 8 + (M'.2.2.1 + 11) + (64 * d + 200) ≤ R.locals; omega⟩, w5, hB.2.2.2.2.1 _ w2⟩ ⟨jzPc_blind, jz_pre (As := jR (some i) :: As) hB hW⟩ rfl (by rw [List.length_map]; exact hn) hL.1 hst (lv_room (by rw [jct_sum]; exact h8)) hd ⟨by omega, by omega⟩
/-- an array's copy -/
def jzCl (h : jzH) (i len : Nat) : jzH := (h.1 ++ [(11, len)], (fun a b => if a = h.1.length then h.2.1 i b else h.2.1 a b), jnw h.2.2 h.1.length none)
theorem j_clone {i len idx : Nat} (hd : decode M.2.1 pc = .ok (.invokevirtual idx, 3)) (w1 : Cond.methodLink M.1.cls idx ⟨"[I", "clone", "()Ljava/lang/Object;"⟩ ∈ lw_good) (w2 : Cond.sameMethod "[I" "java/lang/Object" "clone" "()Ljava/lang/Object;" ∈ lw_good) (w3 : Cond.native ⟨"java/lang/Object", "clone", "()Ljava/lang/Object;"⟩ ∈ lw_good) (w4 : Cond.instanceMethod ⟨"java/lang/Object", "clone", "()Ljava/lang/Object;"⟩ ∈ lw_good) (w5 : Cond.selects "[I" ⟨"[I", "clone", "()Ljava/lang/Object;"⟩ ⟨"java/lang/Object", "clone", "()Ljava/lang/Object;"⟩ ∈ lw_good) (w6 : Cond.castable "[I" "java/lang/Cloneable" ∈ lw_tbl)
    (hi : h.1[i]? = some (11, len)) (h8 : (S.map jct).sum ≤ 8) (k : jW G M d Q (pc + 3) L (jR (some h.1.length) :: S) (jzCl h i len) rc rs) : jW G M d Q pc L (jR (some i) :: S) h (rc + 1) (rs + len) := by
  intro p l e R s m args below meth c A Qc XC mc ms free n0 ad0 ad ls H locs cells slots hB hF hW hL hS hc hs
  have hrm := jB_room hB
  have hS2 := (List.forall_mem_cons.mp hS).2
  have he := jzC_at (G := G) (ad := ad) hi
  rw [jzE_ia] at he
  have hli := jz_ln hW.2.2.2.1 hi
  have hnm : s.vm.findClass "[I" = some (G.2.1 1) := ((jB_K hB).2 1 _ rfl).2
  refine va_clone hB.1 hB.2.1 (hB.2.2.1.trans hL.1.symm) hB.2.2.2.1 (hB.2.2.2.2.1 _ w1) (hB.2.2.2.2.1 _ w2) (hB.2.2.2.2.1 _ w3) (hB.2.2.2.2.1 _ w4) (hB.2.2.2.2.1 _ w5) ((jB_ex hB).2.2.2.2.2.1 _ w6 rfl) (jB_K hB) hW.1 hW.2.1 hW.2.2.1 (jB_A hB) i 1 he rfl hnm (fun j v hv => ?_) (by omega) (by rw [jct_sum]; omega) (by omega) (by show slots + len ≤ R.slots; omega) hd (fun q H1 hK1 hP1 hD1 hS1 => ?_)
  · have : ∃ x : Int32, v = .int x := by
      simp only [vp_cell_i, arrV] at hv
      rw [Array.getElem?_ofFn] at hv
      split at hv
      · exact ⟨_, (Option.some.inj hv).symm⟩
      · cases hv
    obtain ⟨x, rfl⟩ := this
    rfl
  have ha : ∀ j, j < h.1.length → va_up ad h.1.length q j = ad j := fun j hj => va_up_ne _ _ (by omega)
  have hlen : (jzCl h i len).1.length = h.1.length + 1 := by show (h.1 ++ [(11, len)]).length = _; rw [List.length_append]; rfl
  have hE : jzE G (va_up ad h.1.length q) (jzCl h i len) h.1.length (11, len) = .inl (G.2.1 1, len, .inl (fun (j : Nat) => Int32.ofInt (h.2.1 i (j : Int)))) := by
    rw [jzE_ia]
    refine congrArg (fun x => Sum.inl (G.2.1 1, len, Sum.inl x)) (funext fun j => ?_)
    show Int32.ofInt (if h.1.length = h.1.length then _ else _) = _
    rw [if_pos rfl]
  have hko : ∀ j sh', j < h.1.length → jzE G (va_up ad h.1.length q) (jzCl h i len) j sh' = jzE G ad h j sh' := by
    intro j sh' hj
    have e1 := jzE_new (G := G) (ad := ad) (kd := 11) (len := len) (q := q) (sh := sh') hW.2.2.2.1 hj
    rw [← e1]
    refine jzE_other (fun b => ?_) (fun b => rfl)
    show (if j = h.1.length then _ else _) = jnw h.2.1 h.1.length 0 j b
    rw [if_neg (by omega), jnw_ne _ _ _ (by omega)]
  have hok : jzok (jzCl h i len) := by
    have o1 := jzNew_ok (kd := 11) (len := len) hW.2.2.2.1 hli
    refine ⟨o1.1, fun a b => ?_, o1.2.2⟩
    show jin (if a = h.1.length then _ else _)
    split <;> exact hW.2.2.2.1.2.1 _ _
  rw [jzC_push (h' := jzCl h i len) (ad' := va_up ad h.1.length q) (sh := (11, len)) rfl (va_up_self _ _ _) ha hE hko] at hP1 hD1
  have hi0 : n0 ≤ (jzCl h i len).1.length := by rw [hlen]; exact Nat.le_trans hW.2.2.2.2.1 (Nat.le_succ _)
  have kk := k p l e R s m args below meth c A Qc XC mc ms free n0 ad0 (va_up ad h.1.length q) ls H1 locs (cells + 1) (slots + len) hB hF ⟨hP1, hD1, hS1, hok, hi0, fun j hj => (ha j (Nat.lt_of_lt_of_le hj hW.2.2.2.2.1)).trans (hW.2.2.2.2.2 j hj)⟩ (jzL_ad hL (by rw [hlen]; omega) ha) (List.forall_mem_cons.mpr ⟨(by show h.1.length < (jzCl h i len).1.length; rw [hlen]; omega), fun v hv => jok_mono (by rw [hlen]; omega) (hS2 v hv)⟩) (by omega) (by omega)
  have e : (jR (some h.1.length) :: S).map (jzv G (va_up ad h.1.length q)) = .ref q :: S.map (jzv G ad) := by
    show Value.ref (va_up ad h.1.length q h.1.length) :: S.map _ = _
    rw [va_up_self, jzS_ad hS2 ha]
  rw [e] at kk
  exact kk
theorem j_castI {i len idx : Nat} (hd : decode M.2.1 pc = .ok (.checkcast idx, 3)) (w1 : Cond.classLink M.1.cls idx "[I" ∈ lw_good) (hi : h.1[i]? = some (11, len)) (k : jW G M d Q (pc + 3) L (jR (some i) :: S) h rc rs) : jW G M d Q pc L (jR (some i) :: S) h rc rs := by
  intro p l e R s m args below meth c A Qc XC mc ms free n0 ad0 ad ls H locs cells slots hB hF hW hL hS hc hs
  have he := jzC_at (G := G) (ad := ad) hi
  rw [jzE_ia] at he
  have hnm : s.vm.findClass "[I" = some (G.2.1 1) := ((jB_K hB).2 1 _ rfl).2
  exact va_castA hB.1 hB.2.1 hB.2.2.2.1 (hB.2.2.2.2.1 _ w1) hW.1 i he hnm hd (k p l e R s m args below meth c A Qc XC mc ms free n0 ad0 ad ls H locs cells slots hB hF hW hL hS hc hs)
/-! ### texts -/
theorem j_sval {k0 idx : Nat} (hd : decode M.2.1 pc = .ok (.getfield idx, 3)) (hk : k0 < 33) (w1 : Cond.fieldLink M.1.cls idx "java/lang/String" "value" "[B" ∈ lw_good) (k : jW G M d Q (pc + 3) L (jX (k0 + 1001) :: S) h rc rs) : jW G M d Q pc L (jX (k0 + 1) :: S) h rc rs := by
  intro p l e R s m args below meth c A Qc XC mc ms free n0 ad0 ad ls H locs cells slots hB hF hW hL hS hc hs
  exact vk_getf hB.1 hB.2.1 ((jB_ex hB).2.2.2.1 k0 hk).2.2.1 hW.2.2.1 hB.2.2.2.1 (hB.2.2.2.2.1 _ w1) (fun _ q => q) hd (k p l e R s m args below meth c A Qc XC mc ms free n0 ad0 ad ls H locs cells slots hB hF hW hL (List.forall_mem_cons.mpr ⟨trivial, (List.forall_mem_cons.mp hS).2⟩) hc hs)
theorem j_scod {k0 idx : Nat} (hd : decode M.2.1 pc = .ok (.getfield idx, 3)) (hk : k0 < 33) (w1 : Cond.fieldLink M.1.cls idx "java/lang/String" "coder" "B" ∈ lw_good) (k : jW G M d Q (pc + 3) L (jI 0 :: S) h rc rs) : jW G M d Q pc L (jX (k0 + 1) :: S) h rc rs := by
  intro p l e R s m args below meth c A Qc XC mc ms free n0 ad0 ad ls H locs cells slots hB hF hW hL hS hc hs
  exact vk_getf hB.1 hB.2.1 ((jB_ex hB).2.2.2.1 k0 hk).2.1 hW.2.2.1 hB.2.2.2.1 (hB.2.2.2.2.1 _ w1) (fun _ q => q) hd (k p l e R s m args below meth c A Qc XC mc ms free n0 ad0 ad ls H locs cells slots hB hF hW hL (List.forall_mem_cons.mpr ⟨trivial, (List.forall_mem_cons.mp hS).2⟩) hc hs)
theorem j_scmp {idx : Nat} (hd : decode M.2.1 pc = .ok (.getstatic idx, 3)) (w1 : Cond.fieldLink M.1.cls idx "java/lang/String" "COMPACT_STRINGS" "Z" ∈ lw_good) (k : jW G M d Q (pc + 3) L (jI 1 :: S) h rc rs) : jW G M d Q pc L S h rc rs := by
  intro p l e R s m args below meth c A Qc XC mc ms free n0 ad0 ad ls H locs cells slots hB hF hW hL hS hc hs
  exact va_gets hB.1 hB.2.1 (jB_ex hB).2.2.1.1 hW.2.2.1 hB.2.2.2.1 (hB.2.2.2.2.1 _ w1) (fun _ q => q) hd (k p l e R s m args below meth c A Qc XC mc ms free n0 ad0 ad ls H locs cells slots hB hF hW hL (List.forall_mem_cons.mpr ⟨trivial, hS⟩) hc hs)
theorem j_sfmt {idx : Nat} (hd : decode M.2.1 pc = .ok (.getstatic idx, 3)) (w1 : Cond.fieldLink M.1.cls idx "jdk/internal/util/Preconditions" "SIOOBE_FORMATTER" "Ljava/util/function/BiFunction;" ∈ lw_good) (k0 : jW G M d Q (pc + 3) L (jR none :: S) h rc rs) (k : jW G M d Q (pc + 3) L (jX 2000 :: S) h rc rs) : jW G M d Q pc L S h rc rs := by
  intro p l e R s m args below meth c A Qc XC mc ms free n0 ad0 ad ls H locs cells slots hB hF hW hL hS hc hs
  rcases (jB_ex hB).2.2.1.2 with hz | hz
  · exact va_gets hB.1 hB.2.1 hz hW.2.2.1 hB.2.2.2.1 (hB.2.2.2.2.1 _ w1) (fun _ q => q) hd (k0 p l e R s m args below meth c A Qc XC mc ms free n0 ad0 ad ls H locs cells slots hB hF hW hL (List.forall_mem_cons.mpr ⟨trivial, hS⟩) hc hs)
  · exact va_gets hB.1 hB.2.1 hz hW.2.2.1 hB.2.2.2.1 (hB.2.2.2.2.1 _ w1) (fun _ q => q) hd (k p l e R s m args below meth c A Qc XC mc ms free n0 ad0 ad ls H locs cells slots hB hF hW hL (List.forall_mem_cons.mpr ⟨trivial, hS⟩) hc hs)
theorem j_tlen {k0 : Nat} (hd : decode M.2.1 pc = .ok (.arraylength, 1)) (hk : k0 < 33) (k : jW G M d Q (pc + 1) L (jI ((jzBy.getD k0 []).length : Int) :: S) h rc rs) : jW G M d Q pc L (jX (k0 + 1001) :: S) h rc rs := by
  intro p l e R s m args below meth c A Qc XC mc ms free n0 ad0 ad ls H locs cells slots hB hF hW hL hS hc hs
  exact va_tlen hB.1 hB.2.1 ((jB_ex hB).2.2.2.1 k0 hk).2.2.2 hW.2.2.1 (Int32.ofInt_eq_ofNat (n := (jzBy.getD k0 []).length)).symm hd (k p l e R s m args below meth c A Qc XC mc ms free n0 ad0 ad ls H locs cells slots hB hF hW hL (List.forall_mem_cons.mpr ⟨trivial, (List.forall_mem_cons.mp hS).2⟩) hc hs)
theorem jzBy_len : ∀ k0, k0 < 33 → (jzBy.getD k0 []).length < 100 := by decide +kernel
theorem j_tbald {k0 : Nat} {z : Int} (hd : decode M.2.1 pc = .ok (.baload, 1)) (hk : k0 < 33) (h0 : 0 ≤ z) (h1 : z < ((jzBy.getD k0 []).length : Int)) (k : jW G M d Q (pc + 1) L (jI (((jzBy.getD k0 []).getD z.toNat 0 : Nat) : Int) :: S) h rc rs) : jW G M d Q pc L (jI z :: jX (k0 + 1001) :: S) h rc rs := by
  intro p l e R s m args below meth c A Qc XC mc ms free n0 ad0 ad ls H locs cells slots hB hF hW hL hS hc hs
  have hl := jzBy_len k0 hk
  have hx := jn_cl h0 h1 (by omega)
  refine va_tb hB.1 hB.2.1 ((jB_ex hB).2.2.2.1 k0 hk).2.2.2 hW.2.2.1 hx.1 (v := .int (Int32.ofInt (((jzBy.getD k0 []).getD z.toNat 0 : Nat) : Int))) ?_ hd (k p l e R s m args below meth c A Qc XC mc ms free n0 ad0 ad ls H locs cells slots hB hF hW hL (List.forall_mem_cons.mpr ⟨trivial, (List.forall_mem_cons.mp (List.forall_mem_cons.mp hS).2).2⟩) hc hs)
  show Value.int (Int32.ofNat ((jzBy.getD k0 []).getD (Int32.ofInt z).toNatClampNeg 0)) = _
  rw [show (Int32.ofInt z).toNatClampNeg = z.toNat by omega, Int32.ofInt_eq_ofNat]
theorem j_i2c {z : Int} (hd : decode M.2.1 pc = .ok (.i2c, 1)) (h0 : 0 ≤ z) (h1 : z < 65536) (k : jW G M d Q (pc + 1) L (jI z :: S) h rc rs) : jW G M d Q pc L (jI z :: S) h rc rs := by
  intro p l e R s m args below meth c A Qc XC mc ms free n0 ad0 ad ls H locs cells slots hB hF hW hL hS hc hs
  have kk := (k p l e R s m args below meth c A Qc XC mc ms free n0 ad0 ad ls H locs cells slots hB hF hW hL (List.forall_mem_cons.mpr ⟨trivial, (List.forall_mem_cons.mp hS).2⟩) hc hs)
  refine lv_i2c hB.1 hB.2.1 hd (v := Int32.ofInt z) ?_ kk
  obtain ⟨n, rfl⟩ := Int.eq_ofNat_of_zero_le h0
  rw [Int32.ofInt_eq_ofNat]
  show ((nI n).toUInt32 % 65536).toInt32 = nI n
  rw [pk_char, pk_tn (by omega), Nat.mod_eq_of_lt (by omega)]
/-! ### tables -/
theorem jS_ofT {As : List jzV} {mc ms : Nat} (L0 : List (Option jzV)) (hp : plainName M.1.cls = true) (ht : M.2.2.2.2 ≠ []) (ho : ∀ v ∈ As, jone v) (hn : As.length ≤ M.2.2.1) (hL0 : L0 = As.map some ++ List.replicate (M.2.2.1 - As.length) none) (k : jzok h → jW G M d Q 0 L0 [] h mc ms) : jS G d M As h mc ms Q := by
  intro Q2 hq2 l hl ad sz hA hok
  have e : jzws M = Cond.codeWith M.1 M.2.1 M.2.2.1 M.2.2.2.1 M.2.2.2.2 :: lw_good := by
    unfold jzws
    cases q : M.2.2.2.2 with
    | nil => exact absurd q ht
    | cons a b => rfl
  refine vx_ofWH (cc := M.2.1) (maxL := M.2.2.1) (ret := M.2.2.2.1) (hh := M.2.2.2.2) (ws' := lw_good) hp e ?_
  intro p e1 s m args below meth c s₁ B hml hv
  obtain ⟨rfl, hsz, hP, hK, hD0, hEx⟩ := hv
  have hts := atoms_spec (ws := jzws M) B.pre
  subst hsz
  have hD := hD0.self (sz := s.heap.size)
  rw [lg_entry_eq]
  have hle := lv_entry (As.map (jzv G ad)) (n := M.2.2.1) (by rw [jz_sl As ho]; exact hn)
  have htab : c.exceptionTable.toList = tableOf M.2.2.2.2 := vx_table (x := M.1) B (hts _ (by rw [e]; exact List.mem_cons_self))
  refine (jW_mono hq2 (k hok)) p l e1 _ s m _ below meth c (va_A (jzC G ad h) s.heap.size) _ _ mc ms _ h.1.length ad ad _ s.heap [] 0 0 ⟨B.exec, B.bytes, hml, findClass_of_methodNamed B.named, fun w hw => hts w (by rw [e]; exact List.mem_cons_of_mem _ hw), hl, B.notSynchronized, (name_of_methodNamed B.named B.method).1, B.returns, fun q h => Or.inr h, hEx, hK, Nat.le_refl _, Nat.le_refl _, htab⟩ ⟨?_, ?_, fun _ h => h, Nat.le_refl _, Nat.le_refl _⟩ ⟨hP, hD, va_S.rf, hok, Nat.le_refl _, fun _ _ => rfl⟩ ⟨hle.1, hle.2.1, fun i v hi => ?_⟩ (fun v hv => by cases hv) (Nat.le_of_eq (Nat.zero_add _)) (Nat.le_of_eq (Nat.zero_add _))
  · intro t rv h2 ad2 locs hWm hw hrv hq
    exact ⟨⟨rv, h2, ad2, rfl, hq, hrv, hw.1, hw.2.1, hw.2.2.2⟩, hw.2.2.1.F rfl⟩
  · intro t E h2 ad2 locs hal hw hq
    exact ⟨⟨h2, ad2, hq, hw.1, hw.2.1, hw.2.2.2⟩, hw.2.2.1.F rfl⟩
  · rw [hL0] at hi
    have hi2 : As[i]? = some v := by
      by_cases q : i < As.length
      · rw [List.getElem?_append_left (by simpa using q), List.getElem?_map] at hi
        cases q2 : As[i]? with
        | none => rw [q2] at hi; cases hi
        | some w => rw [q2] at hi; exact congrArg some (Option.some.inj (Option.some.inj hi))
      · rw [List.getElem?_append_right (by simpa using q), List.getElem?_replicate] at hi
        split at hi <;> cases hi
    refine ⟨?_, hA v (List.mem_of_getElem? hi2), ho v (List.mem_of_getElem? hi2)⟩
    have := hle.2.2 _ (jz_args (G := G) (ad := ad) As 0 i v ho hi2)
    simpa using this
theorem jzL_drop {ad : Nat → Nat} {n nL i : Nat} {ls ls' : Array Slot} {v : Value} (hL : jzL G ad n nL L ls)
    (h' : lv_has ls' nL ((i, v) :: (jzLl G ad L).filter (fun q => !(q.1 == i) && !(q.1 + 1 == i && q.2.category == 2)))) : jzL G ad n nL (L.set i none) ls' := by
  refine ⟨h'.1, h'.2.1, fun j w hj => ?_⟩
  rw [List.getElem?_set] at hj
  by_cases e : i = j
  · subst e
    rw [if_pos rfl] at hj
    split at hj <;> cases hj
  · rw [if_neg e] at hj
    have hw := hL.2.2 j w hj
    refine ⟨h'.2.2 (j, jzv G ad w) (List.mem_cons_of_mem _ (List.mem_filter.mpr ⟨jzLl_mem.mpr ⟨j, w, hj, rfl⟩, ?_⟩)), hw.2⟩
    have hc : (jzv G ad w).category = 1 := jzv_cat hw.2.2
    simp [hc]
    exact fun q => e q.symm
/-- the rows of a table ahead of the one that takes E -/
def jPs (own : String) (pc : Nat) (E : String) (pre : List ExceptionTableEntry) : Prop := ∀ z ∈ pre, covers z pc = false ∨ (z.catchType ≠ 0 ∧ ∃ nm ∈ jzXs, E ∈ jzXs ∧ E ≠ nm ∧ Cond.classLink own z.catchType nm ∈ lw_good)
theorem j_catch {E : String} {i : Nat} (pre : List ExceptionTableEntry) (x : ExceptionTableEntry) (suf : List ExceptionTableEntry) (hsplit : tableOf M.2.2.2.2 = pre ++ x :: suf) (hps : jPs M.1.cls pc E pre) (hx : covers x pc = true) (h0 : x.catchType ≠ 0) (hl : Cond.classLink M.1.cls x.catchType E ∈ lw_good) (hcs : Cond.castable E E ∈ lw_tbl)
    (hd : decode M.2.1 x.handlerPc = .ok (.astore i, 2)) (hn : i < M.2.2.1) (k : jW G M d Q (x.handlerPc + 2) (L.set i none) [] h rc rs) : jWx G M d Q pc L E h rc rs := by
  intro p l e R s m args below meth c A Qc XC mc ms free n0 ad0 ad ls H locs cells slots st q ce hB hF hW hL hc hs hcell hv hcl
  refine vx_catch hB.2.2.2.1 pre x suf ((jB_tab hB).trans hsplit) (fun z hz => ?_) hx h0 (hB.2.2.2.2.1 _ hl) (va_Nw.use rfl ((jB_ex hB).2.2.2.2.2.1 _ hcs rfl)) hcell hv hcl ?_
  · rcases hps z hz with q1 | ⟨q1, nm, q2, q3, q4, q5⟩
    · exact Or.inl q1
    · exact Or.inr ⟨q1, nm, hB.2.2.2.2.1 _ q5, (jB_ex hB).2.2.2.2.2.2.2.1 E q3 nm q2 q4⟩
  · exact lv_astore hB.1 hB.2.1 hd (jzL_has hL) hn rfl (fun ls' hl' => k p l e R s m args below meth c A Qc XC mc ms free n0 ad0 ad ls' H locs cells slots hB hF hW (jzL_drop hL hl') (fun v hv => by cases hv) hc hs)
theorem j_catch_n {E : String} {i : Fin 4} (pre : List ExceptionTableEntry) (x : ExceptionTableEntry) (suf : List ExceptionTableEntry) (hsplit : tableOf M.2.2.2.2 = pre ++ x :: suf) (hps : jPs M.1.cls pc E pre) (hx : covers x pc = true) (h0 : x.catchType ≠ 0) (hl : Cond.classLink M.1.cls x.catchType E ∈ lw_good) (hcs : Cond.castable E E ∈ lw_tbl)
    (hd : decode M.2.1 x.handlerPc = .ok (.astore_n i, 1)) (hn : i.val < M.2.2.1) (k : jW G M d Q (x.handlerPc + 1) (L.set i.val none) [] h rc rs) : jWx G M d Q pc L E h rc rs := by
  intro p l e R s m args below meth c A Qc XC mc ms free n0 ad0 ad ls H locs cells slots st q ce hB hF hW hL hc hs hcell hv hcl
  refine vx_catch hB.2.2.2.1 pre x suf ((jB_tab hB).trans hsplit) (fun z hz => ?_) hx h0 (hB.2.2.2.2.1 _ hl) (va_Nw.use rfl ((jB_ex hB).2.2.2.2.2.1 _ hcs rfl)) hcell hv hcl ?_
  · rcases hps z hz with q1 | ⟨q1, nm, q2, q3, q4, q5⟩
    · exact Or.inl q1
    · exact Or.inr ⟨q1, nm, hB.2.2.2.2.1 _ q5, (jB_ex hB).2.2.2.2.2.2.2.1 E q3 nm q2 q4⟩
  · exact lv_astore_n hB.1 hB.2.1 hd rfl (jzL_has hL) hn rfl (fun ls' hl' => k p l e R s m args below meth c A Qc XC mc ms free n0 ad0 ad ls' H locs cells slots hB hF hW (jzL_drop hL hl') (fun v hv => by cases hv) hc hs)
def jCT (own : String) (idx n : Nat) (M : jzM) : Prop := Cond.methodLink own idx M.1 ∈ lw_good ∧ Cond.static M.1 ∈ lw_good ∧ Cond.initialized M.1.cls ∈ lw_good ∧ Cond.codeWith M.1 M.2.1 M.2.2.1 M.2.2.2.1 M.2.2.2.2 ∈ lw_good ∧ (M.1.cls ≠ "java/lang/invoke/MethodHandle" ∧ M.1.cls ≠ "java/lang/invoke/VarHandle" ∧ (parseMethodDescriptor M.1.desc).map (fun d => d.parameters.length) = some n) ∧ M.2.2.2.2 ≠ [] ∧ M.2.2.1 ≤ 45
theorem j_callT {M' : jzM} {idx n mc' ms' rc' rs' : Nat} {As : List jzV} (hd : decode M.2.1 pc = .ok (.invokestatic idx, 3)) (hw : jCT M.1.cls idx n M') (hn : As.length = n) (h8 : (S.map jct).sum ≤ 8) (h9 : mc' + rc' ≤ rc) (h10 : ms' + rs' ≤ rs)
    (hsp : jS G d M' As h mc' ms' (jK G M (d + 1) Q pc L S rc' rs')) : jW G M (d + 1) Q pc L (As.reverse ++ S) h rc rs := by
  intro p l e R s m args below meth c A Qc XC mc ms free n0 ad0 ad ls H locs cells slots hB hF hW hL hS hc hs
  obtain ⟨w1, w2, w3, w4, w5, w6, w7⟩ := hw
  have hAs : ∀ v ∈ As, jok h.1.length v := fun v hv => hS _ (List.mem_append_left _ (List.mem_reverse.mpr hv))
  have hS2 : ∀ v ∈ S, jok h.1.length v := fun v hv => hS v (List.mem_append_right _ hv)
  have hrm := jB_room hB
  have hsp2 := hsp _ (fun _ _ q => q) l hB.2.2.2.2.2.1 ad H.size hAs hW.2.2.2.1
  have hst : (As.reverse ++ S).map (jzv G ad) = (As.map (jzv G ad)).reverse ++ S.map (jzv G ad) := by
    rw [List.map_append, List.map_reverse]
  have ews : jzws M' = Cond.codeWith M'.1 M'.2.1 M'.2.2.1 M'.2.2.2.1 M'.2.2.2.2 :: lw_good := by
    unfold jzws
    cases q : M'.2.2.2.2 with
    | nil => exact absurd q w6
    | cons a b => rfl
  have hgd : GoodIn lw_good (va_wsS M.1.cls idx M'.1 (jzws M')) := by
    intro w hw2
    rcases List.mem_append.mp hw2 with q | q
    · simp only [List.mem_cons, List.not_mem_nil, or_false] at q
      rcases q with rfl | rfl | rfl
      · exact jz_good w1
      · exact jz_good w2
      · exact jz_good w3
    · rw [ews] at q
      rcases List.mem_cons.mp q with rfl | q
      · exact jz_good w4
      · exact jz_good q
  refine jz_use (st0 := (As.reverse ++ S).map (jzv G ad)) (av := (As.map (jzv G ad)).toArray) hB hF hW hL hS2 (mc' := mc') (ms' := ms') (rc' := rc') (rs' := rs') (by omega) (by omega) ?_
  exact vx_runSX (As := As.map (jzv G ad)) (n := n) (nL := M.2.2.1) ⟨hB.1, hB.2.1, hB.2.2.1, hB.2.2.2.1, hB.2.2.2.2.1⟩ hsp2 (vx_cwSW n hB.2.2.2.2.1 hgd ews rfl rfl w5 ⟨by show d + 10 + 1 ≤ R.frames; omega, by show 8 + (M'.2.2.1 + 11) + (64 * d + 200) ≤ R.locals; omega⟩) ⟨jzPc_blind, jz_pre (As := As) hB hW⟩ rfl (by rw [List.length_map]; exact hn) hL.1 hst (lv_room (by rw [jct_sum]; exact h8)) hd ⟨by omega, by omega⟩
end Rows6
