/-! CALLS AND CONTRACTS -/
def jct : jzV → Nat
  | .inr (.inl _) => 2
  | _ => 1
theorem jct_eq {G : jzG} {ad : Nat → Nat} : ∀ v : jzV, (jzv G ad v).category = jct v
  | .inl _ => rfl
  | .inr (.inl _) => rfl
  | .inr (.inr (.inl none)) => rfl
  | .inr (.inr (.inl (some _))) => rfl
  | .inr (.inr (.inr _)) => rfl
theorem jct_sum {G : jzG} {ad : Nat → Nat} (S : List jzV) : ((S.map (jzv G ad)).map fun v => v.category).sum = (S.map jct).sum := by
  rw [List.map_map]
  exact congrArg List.sum (List.map_congr_left (fun v _ => jct_eq v))
/-- a method's contract out of its body -/
theorem jS_of {G : jzG} {d : Nat} {M : jzM} {As : List jzV} {h : jzH} {mc ms : Nat} {Q : jzO → jzH → Prop} (hp : plainName M.1.cls = true) (ht : M.2.2.2.2 = []) (ho : ∀ v ∈ As, jone v) (hn : As.length ≤ M.2.2.1) (k : jzok h → jW G M d Q 0 (jzA As) [] h mc ms) : jS G d M As h mc ms Q := by
  intro Q2 hq2 l hl ad sz hA hok
  refine vx_ofW (cc := M.2.1) (maxL := M.2.2.1) (ret := M.2.2.2.1) (ws' := lw_good) hp (by simp [jzws, ht]) ?_
  intro p e s m args below meth c s₁ B hml hx0 hv
  obtain ⟨rfl, hsz, hP, hK, hD0, hEx⟩ := hv
  have hts := atoms_spec (ws := jzws M) B.pre
  subst hsz
  have hD := hD0.self (sz := s.heap.size)
  rw [lg_entry_eq]
  have hle := lv_entry (As.map (jzv G ad)) (n := M.2.2.1) (by rw [jz_sl As ho]; exact hn)
  have htab : c.exceptionTable.toList = tableOf M.2.2.2.2 := by
    rw [ht]
    cases hc : c.exceptionTable.toList with
    | nil => rfl
    | cons x y => exact absurd (hx0 x (by rw [hc]; exact List.mem_cons_self)) id
  refine (jW_mono hq2 (k hok)) p l e _ s m _ below meth c (va_A (jzC G ad h) s.heap.size) _ _ mc ms _ h.1.length ad ad _ s.heap [] 0 0 ⟨B.exec, B.bytes, hml, findClass_of_methodNamed B.named, fun w hw => hts w (List.mem_cons_of_mem _ hw), hl, B.notSynchronized, (name_of_methodNamed B.named B.method).1, B.returns, fun q h => Or.inr h, hEx, hK, Nat.le_refl _, Nat.le_refl _, htab⟩ ⟨?_, ?_, fun _ h => h, Nat.le_refl _, Nat.le_refl _⟩ ⟨hP, hD, va_S.rf, hok, Nat.le_refl _, fun _ _ => rfl⟩ ⟨hle.1, hle.2.1, fun i v hi => ?_⟩ (fun v hv => by cases hv) (Nat.le_of_eq (Nat.zero_add _)) (Nat.le_of_eq (Nat.zero_add _))
  · intro t rv h2 ad2 locs hWm hw hrv hq
    exact ⟨⟨rv, h2, ad2, rfl, hq, hrv, hw.1, hw.2.1, hw.2.2.2⟩, hw.2.2.1.F rfl⟩
  · intro t E h2 ad2 locs hal hw hq
    exact ⟨⟨h2, ad2, hq, hw.1, hw.2.1, hw.2.2.2⟩, hw.2.2.1.F rfl⟩
  · have hi2 : As[i]? = some v := by
      simp only [jzA, List.getElem?_map] at hi
      cases q : As[i]? with
      | none => rw [q] at hi; cases hi
      | some w => rw [q] at hi; exact congrArg some (Option.some.inj (Option.some.inj hi))
    refine ⟨?_, hA v (List.mem_of_getElem? hi2), ho v (List.mem_of_getElem? hi2)⟩
    have := hle.2.2 _ (jz_args (G := G) (ad := ad) As 0 i v ho hi2)
    simpa using this
theorem jzPc_blind {G : jzG} {As : List jzV} {h : jzH} {ad : Nat → Nat} {sz : Nat} : FrameBlind (jzPc G As h ad sz) := by
  intro a U g mk q
  obtain ⟨q0, q1, qP, qK, qD, qE⟩ := q
  exact ⟨q0, q1, qP, va_K.moved (u := U) (U := U.calling g mk a) (Vm.Alike.refl U.vm) qK, qD, jzEx.same (s := U) (U := U.calling g mk a) rfl qE⟩
theorem jz_free {G : jzG} {A : Nat → Prop} {H0 H : Heap} {n0 : Nat} {ad0 ad : Nat → Nat} {h : jzH} {locs : List Loc} (hW : jzW G A H0 n0 ad0 ad h H locs) (hA : ∀ q, H0.size ≤ q → A q) : ∀ q, va_A (jzC G ad h) H.size q → A q := by
  intro q hq
  rcases hq with ⟨k, e, hk⟩ | hq
  · exact hW.2.1.2 k _ hk
  · exact hA q (Nat.le_trans hW.2.2.1.1 hq)
section Calls
variable {G : jzG} {M : jzM} {d pc rc rs : Nat} {Q : jzO → jzH → Prop} {L : List (Option jzV)} {S : List jzV} {h : jzH}
/-- what a call's end gives to the caller -/
def jK (G : jzG) (M : jzM) (d : Nat) (Q : jzO → jzH → Prop) (pc : Nat) (L : List (Option jzV)) (S : List jzV) (rc rs : Nat) : jzO → jzH → Prop := fun o h =>
  match o with
  | .inl rv => jW G M d Q (pc + 3) L (rv.toList ++ S) h rc rs
  | .inr E => jWx G M d Q pc L E h rc rs
theorem jz_pre {As : List jzV} {A : Nat → Prop} {p : Program} {l : Launch} {R : Room} {s : State} {m : MethodId} {args : Array Value} {meth : Method} {c : Code} {n0 : Nat} {ad0 ad : Nat → Nat} {H : Heap} {locs : List Loc} (hB : jzB G M d p l R s m args meth c A) (hW : jzW G A s.heap n0 ad0 ad h H locs) : ∀ U : State, U.heap = H → s.WarmedH U.vm → jzPc G As h ad H.size (As.map (jzv G ad)).toArray U := by
  intro U hU hWm
  refine ⟨rfl, by rw [hU], by rw [hU]; exact hW.1, va_K.moved hWm.alike (jB_K hB), hW.2.1.weaken (fun _ _ _ _ => trivial), ?_⟩
  rw [hU]
  exact jzEx.warm hWm ((jB_ex hB).kept hW.2.2.1.1 hW.2.2.1.2.1 |>.narrow (jz_free hW (jB_A hB)))
theorem jz_use {A : Nat → Prop} {p : Program} {l : Launch} {e : Env} {R : Room} {s : State} {m : MethodId} {args : Array Value} {below : List Frame} {meth : Method} {c : Code} {Qc : Array Value → State → Outcome → State → Prop} {XC : String → State → State → Prop} {mc ms : Nat} {free : Addr → Prop} {n0 : Nat} {ad0 ad : Nat → Nat} {ls : Array Slot} {H : Heap} {locs : List Loc} {cells slots mc' ms' rc' rs' : Nat} {st0 : List Value} {av : Array Value}
    (hB : jzB G M d p l R s m args meth c A) (hF : jzFn G Q R s args A Qc XC mc ms free n0 ad0) (hW : jzW G A s.heap n0 ad0 ad h H locs) (hL : jzL G ad h.1.length M.2.2.1 L ls) (hS : ∀ v ∈ S, jok h.1.length v) (hc : cells + mc' + rc' ≤ R.cells) (hs : slots + ms' + rs' ≤ R.slots)
    (hr : vx_Run p l e R s m args below meth c H locs cells slots mc' ms' (F0 m pc ls st0) (S.map (jzv G ad)) (jzQc G (jK G M d Q pc L S rc' rs') (va_A (jzC G ad h) H.size) h.1.length ad av) (jzXc G (jK G M d Q pc L S rc' rs') (va_A (jzC G ad h) H.size) h.1.length ad) (va_A (jzC G ad h) H.size)) :
    W p l e R s m args below meth c H locs cells slots (vx_MQ below Qc XC args s mc ms free) (F0 m pc ls st0) := by
  have hfr := jz_free hW (jB_A hB)
  intro T hT X
  rcases hr T hT X with ⟨v, st₀, t, T', L2, h0, X', hL2, e1, e2, ⟨⟨rv, h2, ad2, hv, hq, hrv, hP2, hD2, hok2, hn2, ha2⟩, hF2⟩, st⟩ | ⟨q, st₀, t, T', L2, E, ce, h0, X', hL2, e1, e2, ⟨⟨h2, ad2, hq, hP2, hD2, hok2, hn2, ha2⟩, hF2⟩, hce, hcv, hcl, st⟩
  · cases hv
    obtain ⟨k1, k2, k3⟩ := vx_keep h0 e1 hW.2.2.1 (fun q _ hq => hfr q hq) hfr hL2 hF2
    have hW2 : jzW G A s.heap n0 ad0 ad2 h2 T'.heap (locs ++ L2) := ⟨by rw [e1]; exact hP2, hD2.weaken (fun _ q _ hq => hfr _ hq), k3, hok2, Nat.le_trans hW.2.2.2.2.1 hn2, fun i hi => (ha2 i (Nat.lt_of_lt_of_le hi hW.2.2.2.2.1)).trans (hW.2.2.2.2.2 i hi)⟩
    have hS2 : ∀ v ∈ rv.toList ++ S, jok h2.1.length v := fun v hv => by
      rcases List.mem_append.mp hv with q | q
      · exact hrv v (Option.mem_toList.mp q)
      · exact jok_mono hn2 (hS v q)
    have kk := hq p l e R s m args below meth c A Qc XC mc ms free n0 ad0 ad2 ls T'.heap (locs ++ L2) (cells + mc') (slots + ms') hB hF hW2 (jzL_ad hL hn2 ha2) hS2 hc hs
    have ee : (rv.toList ++ S).map (jzv G ad2) = (rv.map (jzv G ad2)).toList ++ S.map (jzv G ad) := by
      rw [List.map_append, jzS_ad hS ha2]
      cases rv <;> rfl
    rw [ee] at kk
    obtain ⟨t2, a1, b1⟩ := kk T' rfl X'
    exact ⟨t2, st t2 a1, b1⟩
  · obtain ⟨k1, k2, k3⟩ := vx_keep h0 e1 hW.2.2.1 (fun q _ hq => hfr q hq) hfr hL2 hF2
    have hW2 : jzW G A s.heap n0 ad0 ad2 h2 T'.heap (locs ++ L2) := ⟨by rw [e1]; exact hP2, hD2.weaken (fun _ q _ hq => hfr _ hq), k3, hok2, Nat.le_trans hW.2.2.2.2.1 hn2, fun i hi => (ha2 i (Nat.lt_of_lt_of_le hi hW.2.2.2.2.1)).trans (hW.2.2.2.2.2 i hi)⟩
    have kk := hq p l e R s m args below meth c A Qc XC mc ms free n0 ad0 ad2 ls T'.heap (locs ++ L2) (cells + mc') (slots + ms') (S.map (jzv G ad)) q ce hB hF hW2 (jzL_ad hL hn2 ha2) hc hs (by rw [e1]; exact hce) hcv hcl
    obtain ⟨t2, a1, b1⟩ := kk T' rfl X'
    exact ⟨t2, st.trans a1, b1⟩
/-- words of a virtual call of a method of the class ci -/
def jCV (own : String) (idx : Nat) (cn : String) (n : Nat) (M : jzM) : Prop := Cond.methodLink own idx M.1 ∈ lw_good ∧ Cond.instanceMethod M.1 ∈ lw_good ∧ Cond.selects cn M.1 M.1 ∈ lw_good ∧ Cond.initialized cn ∈ lw_good ∧ Cond.code M.1 M.2.1 M.2.2.1 M.2.2.2.1 ∈ lw_good ∧ (M.1.cls = cn ∧ M.1.cls ≠ "java/lang/invoke/MethodHandle" ∧ M.1.cls ≠ "java/lang/invoke/VarHandle" ∧ (parseMethodDescriptor M.1.desc).map (fun d => d.parameters.length) = some n) ∧ M.2.2.2.2 = [] ∧ M.2.2.1 ≤ 45
def jCS (own : String) (idx n : Nat) (M : jzM) : Prop := Cond.methodLink own idx M.1 ∈ lw_good ∧ Cond.static M.1 ∈ lw_good ∧ Cond.initialized M.1.cls ∈ lw_good ∧ Cond.code M.1 M.2.1 M.2.2.1 M.2.2.2.1 ∈ lw_good ∧ (M.1.cls ≠ "java/lang/invoke/MethodHandle" ∧ M.1.cls ≠ "java/lang/invoke/VarHandle" ∧ (parseMethodDescriptor M.1.desc).map (fun d => d.parameters.length) = some n) ∧ M.2.2.2.2 = [] ∧ M.2.2.1 ≤ 45
theorem jz_good {w : Cond} (h : w ∈ lw_good) : w ∈ lw_good ∧ ((w.onTables && w.keeps) = true ∨ ∃ ty, w = .arrayClass ty) := lw_goodIn w h
theorem jz_goodws {M' : jzM} (ht : M'.2.2.2.2 = []) (hw : Cond.code M'.1 M'.2.1 M'.2.2.1 M'.2.2.2.1 ∈ lw_good) : GoodIn lw_good (jzws M') := by
  intro w hw2
  have e : jzws M' = Cond.code M'.1 M'.2.1 M'.2.2.1 M'.2.2.2.1 :: lw_good := by simp [jzws, ht]
  rw [e] at hw2
  rcases List.mem_cons.mp hw2 with rfl | q
  · exact jz_good hw
  · exact jz_good q
theorem jz_goodV {own cn : String} {idx n : Nat} {M' : jzM} (hw : jCV own idx cn n M') : GoodIn lw_good (wsV own idx cn M'.1 (jzws M')) := by
  obtain ⟨w1, w2, w3, w4, w5, w6, w7, w8⟩ := hw
  intro w hw2
  rcases List.mem_append.mp hw2 with q | q
  · simp only [List.mem_cons, List.not_mem_nil, or_false] at q
    rcases q with rfl | rfl | rfl | rfl
    · exact jz_good w1
    · exact jz_good w2
    · exact jz_good w3
    · exact jz_good w4
  · exact jz_goodws w7 w5 w q
theorem jz_goodS {own : String} {idx n : Nat} {M' : jzM} (hw : jCS own idx n M') : GoodIn lw_good (va_wsS own idx M'.1 (jzws M')) := by
  obtain ⟨w1, w2, w3, w5, w6, w7, w8⟩ := hw
  intro w hw2
  rcases List.mem_append.mp hw2 with q | q
  · simp only [List.mem_cons, List.not_mem_nil, or_false] at q
    rcases q with rfl | rfl | rfl
    · exact jz_good w1
    · exact jz_good w2
    · exact jz_good w3
  · exact jz_goodws w7 w5 w q
theorem jz_wse {M' : jzM} (ht : M'.2.2.2.2 = []) : jzws M' = Cond.code M'.1 M'.2.1 M'.2.2.1 M'.2.2.2.1 :: lw_good := by simp [jzws, ht]
theorem j_callV {M' : jzM} {idx n i ci len mc' ms' rc' rs' : Nat} {As : List jzV} (hd : decode M.2.1 pc = .ok (.invokevirtual idx, 3)) (hw : jCV M.1.cls idx (jzCn ci) n M') (hc1 : ci < 10) (hi : h.1[i]? = some (ci, len)) (hn : As.length = n) (h8 : (S.map jct).sum ≤ 8) (h9 : mc' + rc' ≤ rc) (h10 : ms' + rs' ≤ rs)
    (hsp : jS G d M' (jR (some i) :: As) h mc' ms' (jK G M (d + 1) Q pc L S rc' rs')) : jW G M (d + 1) Q pc L (As.reverse ++ jR (some i) :: S) h rc rs := by
  intro p l e R s m args below meth c A Qc XC mc ms free n0 ad0 ad ls H locs cells slots hB hF hW hL hS hc hs
  have hAs : ∀ v ∈ jR (some i) :: As, jok h.1.length v := by
    intro v hv
    rcases List.mem_cons.mp hv with rfl | q
    · exact hS _ (List.mem_append_right _ List.mem_cons_self)
    · exact hS _ (List.mem_append_left _ (List.mem_reverse.mpr q))
  have hS2 : ∀ v ∈ S, jok h.1.length v := fun v hv => hS v (List.mem_append_right _ (List.mem_cons_of_mem _ hv))
  have hrm := jB_room hB
  have hsp2 := hsp _ (fun _ _ q => q) l hB.2.2.2.2.2.1 ad H.size hAs hW.2.2.2.1
  have he := jzC_at (G := G) (ad := ad) hi
  rw [jzE_obj hc1] at he
  have hst : (As.reverse ++ jR (some i) :: S).map (jzv G ad) = (As.map (jzv G ad)).reverse ++ .ref (ad i) :: S.map (jzv G ad) := by
    rw [List.map_append, List.map_reverse]; rfl
  refine jz_use (st0 := (As.reverse ++ jR (some i) :: S).map (jzv G ad)) (av := (Value.ref (ad i) :: As.map (jzv G ad)).toArray) hB hF hW hL hS2 (mc' := mc') (ms' := ms') (rc' := rc') (rs' := rs') (by omega) (by omega) ?_
  exact vx_runV (As := As.map (jzv G ad)) (b := ad i) (C := jzCn ci) (n := n) (nL := M.2.2.1) ⟨hB.1, hB.2.1, hB.2.2.1, hB.2.2.2.1, hB.2.2.2.2.1⟩ hsp2 (cwV n hB.2.2.2.2.1 (jz_goodV hw) (jz_wse hw.2.2.2.2.2.2.1) rfl rfl hw.2.2.2.2.2.1 ⟨by show d + 10 + 1 ≤ R.frames; omega, by show 8 + (M'.2.2.1 + 11) + (64 * d + 200) ≤ R.locals; have := hw.2.2.2.2.2.2.2; omega⟩) ⟨jzPc_blind, va_recv (jB_K hB) hW.1 (jz_cl ci hc1) he, jz_pre (As := jR (some i) :: As) hB hW⟩ rfl (by rw [List.length_map]; exact hn) hL.1 hst (lv_room (by rw [jct_sum]; exact h8)) hd ⟨by omega, by omega⟩
theorem j_callS {M' : jzM} {idx n mc' ms' rc' rs' : Nat} {As : List jzV} (hd : decode M.2.1 pc = .ok (.invokestatic idx, 3)) (hw : jCS M.1.cls idx n M') (hn : As.length = n) (h8 : (S.map jct).sum ≤ 8) (h9 : mc' + rc' ≤ rc) (h10 : ms' + rs' ≤ rs)
    (hsp : jS G d M' As h mc' ms' (jK G M (d + 1) Q pc L S rc' rs')) : jW G M (d + 1) Q pc L (As.reverse ++ S) h rc rs := by
  intro p l e R s m args below meth c A Qc XC mc ms free n0 ad0 ad ls H locs cells slots hB hF hW hL hS hc hs
  have hAs : ∀ v ∈ As, jok h.1.length v := fun v hv => hS _ (List.mem_append_left _ (List.mem_reverse.mpr hv))
  have hS2 : ∀ v ∈ S, jok h.1.length v := fun v hv => hS v (List.mem_append_right _ hv)
  have hrm := jB_room hB
  have hsp2 := hsp _ (fun _ _ q => q) l hB.2.2.2.2.2.1 ad H.size hAs hW.2.2.2.1
  have hst : (As.reverse ++ S).map (jzv G ad) = (As.map (jzv G ad)).reverse ++ S.map (jzv G ad) := by
    rw [List.map_append, List.map_reverse]
  refine jz_use (st0 := (As.reverse ++ S).map (jzv G ad)) (av := (As.map (jzv G ad)).toArray) hB hF hW hL hS2 (mc' := mc') (ms' := ms') (rc' := rc') (rs' := rs') (by omega) (by omega) ?_
  exact vx_runS (As := As.map (jzv G ad)) (n := n) (nL := M.2.2.1) ⟨hB.1, hB.2.1, hB.2.2.1, hB.2.2.2.1, hB.2.2.2.2.1⟩ hsp2 (va_cwS n hB.2.2.2.2.1 (jz_goodS hw) (jz_wse hw.2.2.2.2.2.1) rfl rfl hw.2.2.2.2.1 ⟨by show d + 10 + 1 ≤ R.frames; omega, by show 8 + (M'.2.2.1 + 11) + (64 * d + 200) ≤ R.locals; have := hw.2.2.2.2.2.2; omega⟩) ⟨jzPc_blind, jz_pre (As := As) hB hW⟩ rfl (by rw [List.length_map]; exact hn) hL.1 hst (lv_room (by rw [jct_sum]; exact h8)) hd ⟨by omega, by omega⟩
/-- a call of a method of String, on a text -/
theorem j_callX {M' : jzM} {idx n k mc' ms' rc' rs' : Nat} {As : List jzV} (hd : decode M.2.1 pc = .ok (.invokevirtual idx, 3)) (hw : jCV M.1.cls idx "java/lang/String" n M') (hk : k < 33) (hn : As.length = n) (h8 : (S.map jct).sum ≤ 8) (h9 : mc' + rc' ≤ rc) (h10 : ms' + rs' ≤ rs)
    (hsp : jS G d M' (jX (k + 1) :: As) h mc' ms' (jK G M (d + 1) Q pc L S rc' rs')) : jW G M (d + 1) Q pc L (As.reverse ++ jX (k + 1) :: S) h rc rs := by
  intro p l e R s m args below meth c A Qc XC mc ms free n0 ad0 ad ls H locs cells slots hB hF hW hL hS hc hs
  have hAs : ∀ v ∈ jX (k + 1) :: As, jok h.1.length v := by
    intro v hv
    rcases List.mem_cons.mp hv with rfl | q
    · exact trivial
    · exact hS _ (List.mem_append_left _ (List.mem_reverse.mpr q))
  have hS2 : ∀ v ∈ S, jok h.1.length v := fun v hv => hS v (List.mem_append_right _ (List.mem_cons_of_mem _ hv))
  have hrm := jB_room hB
  have hsp2 := hsp _ (fun _ _ q => q) l hB.2.2.2.2.2.1 ad H.size hAs hW.2.2.2.1
  have hst : (As.reverse ++ jX (k + 1) :: S).map (jzv G ad) = (As.map (jzv G ad)).reverse ++ .ref (G.2.2.1 (k + 1)) :: S.map (jzv G ad) := by
    rw [List.map_append, List.map_reverse]; rfl
  refine jz_use (st0 := (As.reverse ++ jX (k + 1) :: S).map (jzv G ad)) (av := (Value.ref (G.2.2.1 (k + 1)) :: As.map (jzv G ad)).toArray) hB hF hW hL hS2 (mc' := mc') (ms' := ms') (rc' := rc') (rs' := rs') (by omega) (by omega) ?_
  exact vx_runV (As := As.map (jzv G ad)) (b := G.2.2.1 (k + 1)) (C := "java/lang/String") (n := n) (nL := M.2.2.1) ⟨hB.1, hB.2.1, hB.2.2.1, hB.2.2.2.1, hB.2.2.2.2.1⟩ hsp2 (cwV n hB.2.2.2.2.1 (jz_goodV hw) (jz_wse hw.2.2.2.2.2.2.1) rfl rfl hw.2.2.2.2.2.1 ⟨by show d + 10 + 1 ≤ R.frames; omega, by show 8 + (M'.2.2.1 + 11) + (64 * d + 200) ≤ R.locals; have := hw.2.2.2.2.2.2.2; omega⟩) ⟨jzPc_blind, va_Orecv ((jB_ex hB).2.2.2.1 k hk).1 hW.2.2.1, jz_pre (As := jX (k + 1) :: As) hB hW⟩ rfl (by rw [List.length_map]; exact hn) hL.1 hst (lv_room (by rw [jct_sum]; exact h8)) hd ⟨by omega, by omega⟩
theorem j_objInit {i idx : Nat} (hd : decode M.2.1 pc = .ok (.invokespecial idx, 3)) (w1 : Cond.methodLink M.1.cls idx Lib.objectInit ∈ lw_good) (w2 : Cond.instanceMethod Lib.objectInit ∈ lw_good) (w3 : Cond.code Lib.objectInit ⟨#[0xb1]⟩ 1 none ∈ lw_good) (h8 : (S.map jct).sum ≤ 8) (k : jW G M d Q (pc + 3) L S h rc rs) : jW G M d Q pc L (jR (some i) :: S) h rc rs := by
  intro p l e R s m args below meth c A Qc XC mc ms free n0 ad0 ad ls H locs cells slots hB hF hW hL hS hc hs
  have hrm := jB_room hB
  refine W.objInit hB.1 hB.2.1 hB.2.2.2.1 (hB.2.2.2.2.1 _ w1) (hB.2.2.2.2.1 _ w2) (hB.2.2.2.2.1 _ w3) rfl (hL.1.trans hB.2.2.1.symm) rfl hd (by omega) ?_ ?_
  · have := lv_room (m := m) (pc := pc) (ls := ls) (rest := (jR (some i) :: S).map (jzv G ad)) (st := S.map (jzv G ad)) (by rw [jct_sum]; exact h8)
    exact Nat.le_trans (Nat.add_le_add_right this 12) (by omega)
  · exact (k p l e R s m args below meth c A Qc XC mc ms free n0 ad0 ad ls H locs cells slots hB hF hW hL (List.forall_mem_cons.mp hS).2 hc hs)
theorem j_min {a b : Int} {idx : Nat} (hd : decode M.2.1 pc = .ok (.invokestatic idx, 3)) (w1 : Cond.methodLink M.1.cls idx Lib.Math.min.name ∈ lw_good) (w2 : Cond.static Lib.Math.min.name ∈ lw_good) (w3 : Cond.initialized "java/lang/Math" ∈ lw_good) (w4 : Cond.code Lib.Math.min.name Lib.Math.min.code 2 (some .int) ∈ lw_good) (h8 : (S.map jct).sum ≤ 8) (ha : jin a) (hb : jin b) (k : jW G M d Q (pc + 3) L (jI (min a b) :: S) h rc rs) : jW G M d Q pc L (jI b :: jI a :: S) h rc rs := by
  intro p l e R s m args below meth c A Qc XC mc ms free n0 ad0 ad ls H locs cells slots hB hF hW hL hS hc hs
  have hrm := jB_room hB
  have kk := (k p l e R s m args below meth c A Qc XC mc ms free n0 ad0 ad ls H locs cells slots hB hF hW hL (List.forall_mem_cons.mpr ⟨trivial, (List.forall_mem_cons.mp (List.forall_mem_cons.mp hS).2).2⟩) hc hs)
  refine va_mmin hB.1 hB.2.1 (hB.2.2.1.trans hL.1.symm) hB.2.2.2.1 (hB.2.2.2.2.1 _ w1) (hB.2.2.2.2.1 _ w2) (hB.2.2.2.2.1 _ w3) (hB.2.2.2.2.1 _ w4) (by omega) (by rw [jct_sum]; omega) (by omega) (by omega) hd ?_
  have e : (if Int32.ofInt b < Int32.ofInt a then Int32.ofInt b else Int32.ofInt a) = Int32.ofInt (min a b) := by
    by_cases q : b < a
    · rw [if_pos ((jn_lt hb ha).mpr q), Int.min_eq_right (by omega)]
    · rw [if_neg (fun z => q ((jn_lt hb ha).mp z)), Int.min_eq_left (by omega)]
  rw [e]
  exact kk
theorem j_max {a b : Int} {idx : Nat} (hd : decode M.2.1 pc = .ok (.invokestatic idx, 3)) (w1 : Cond.methodLink M.1.cls idx Lib.Math.max.name ∈ lw_good) (w2 : Cond.static Lib.Math.max.name ∈ lw_good) (w3 : Cond.initialized "java/lang/Math" ∈ lw_good) (w4 : Cond.code Lib.Math.max.name Lib.Math.max.code 2 (some .int) ∈ lw_good) (h8 : (S.map jct).sum ≤ 8) (ha : jin a) (hb : jin b) (k : jW G M d Q (pc + 3) L (jI (max a b) :: S) h rc rs) : jW G M d Q pc L (jI b :: jI a :: S) h rc rs := by
  intro p l e R s m args below meth c A Qc XC mc ms free n0 ad0 ad ls H locs cells slots hB hF hW hL hS hc hs
  have hrm := jB_room hB
  have kk := (k p l e R s m args below meth c A Qc XC mc ms free n0 ad0 ad ls H locs cells slots hB hF hW hL (List.forall_mem_cons.mpr ⟨trivial, (List.forall_mem_cons.mp (List.forall_mem_cons.mp hS).2).2⟩) hc hs)
  refine va_mmax hB.1 hB.2.1 (hB.2.2.1.trans hL.1.symm) hB.2.2.2.1 (hB.2.2.2.2.1 _ w1) (hB.2.2.2.2.1 _ w2) (hB.2.2.2.2.1 _ w3) (hB.2.2.2.2.1 _ w4) (by omega) (by rw [jct_sum]; omega) (by omega) (by omega) hd ?_
  have e : (if Int32.ofInt a < Int32.ofInt b then Int32.ofInt b else Int32.ofInt a) = Int32.ofInt (max a b) := by
    by_cases q : a < b
    · rw [if_pos ((jn_lt ha hb).mpr q), Int.max_eq_right (by omega)]
    · rw [if_neg (fun z => q ((jn_lt ha hb).mp z)), Int.max_eq_left (by omega)]
  rw [e]
  exact kk
theorem j_abs {a : Int} {idx : Nat} (hd : decode M.2.1 pc = .ok (.invokestatic idx, 3)) (w1 : Cond.methodLink M.1.cls idx Lib.Math.abs.name ∈ lw_good) (w2 : Cond.static Lib.Math.abs.name ∈ lw_good) (w3 : Cond.initialized "java/lang/Math" ∈ lw_good) (w4 : Cond.code Lib.Math.abs.name Lib.Math.abs.code 1 (some .int) ∈ lw_good) (h8 : (S.map jct).sum ≤ 8) (ha : jin a) (k : jW G M d Q (pc + 3) L (jI (if 0 ≤ a then a else -a) :: S) h rc rs) : jW G M d Q pc L (jI a :: S) h rc rs := by
  intro p l e R s m args below meth c A Qc XC mc ms free n0 ad0 ad ls H locs cells slots hB hF hW hL hS hc hs
  have hrm := jB_room hB
  have kk := (k p l e R s m args below meth c A Qc XC mc ms free n0 ad0 ad ls H locs cells slots hB hF hW hL (List.forall_mem_cons.mpr ⟨trivial, (List.forall_mem_cons.mp hS).2⟩) hc hs)
  refine va_mabs hB.1 hB.2.1 (hB.2.2.1.trans hL.1.symm) hB.2.2.2.1 (hB.2.2.2.2.1 _ w1) (hB.2.2.2.2.1 _ w2) (hB.2.2.2.2.1 _ w3) (hB.2.2.2.2.1 _ w4) (by omega) (by rw [jct_sum]; omega) (by omega) (by omega) hd ?_
  have e : (if 0 ≤ Int32.ofInt a then Int32.ofInt a else 0 - Int32.ofInt a) = Int32.ofInt (if 0 ≤ a then a else -a) := by
    have h0 : jin 0 := ⟨by decide, by decide⟩
    rw [show (0 : Int32) = Int32.ofInt 0 from rfl]
    by_cases q : 0 ≤ a
    · rw [if_pos ((jn_le h0 ha).mpr q), if_pos q]
    · rw [if_neg (fun z => q ((jn_le h0 ha).mp z)), if_neg q, jn_sub, Int.zero_sub]
  rw [e]
  exact kk
def jcp (f : Nat → Int → Int) (i : Nat) (sp : Int) (j : Nat) (dp n : Int) : Nat → Int → Int := fun a b => if a = j ∧ dp ≤ b ∧ b < dp + n then f i (sp + (b - dp)) else f a b
theorem j_copy {i j li lj idx : Nat} {sp dp n : Int} (hd : decode M.2.1 pc = .ok (.invokestatic idx, 3)) (w1 : Cond.methodLink M.1.cls idx arraycopyName ∈ lw_good) (w2 : Cond.native arraycopyName ∈ lw_good) (w3 : Cond.static arraycopyName ∈ lw_good) (w4 : Cond.initialized "java/lang/System" ∈ lw_good) (hi : h.1[i]? = some (11, li)) (hj : h.1[j]? = some (11, lj)) (h1 : 0 ≤ sp) (h2 : 0 ≤ dp) (h3 : 0 ≤ n) (h4 : sp + n ≤ li) (h5 : dp + n ≤ lj) (h8 : (S.map jct).sum ≤ 8)
    (k : jW G M d Q (pc + 3) L S (h.1, jcp h.2.1 i sp j dp n, h.2.2) rc rs) : jW G M d Q pc L (jI n :: jI dp :: jR (some j) :: jI sp :: jR (some i) :: S) h rc rs := by
  intro p l e R s m args below meth c A Qc XC mc ms free n0 ad0 ad ls H locs cells slots hB hF hW hL hS hc hs
  have hrm := jB_room hB
  have hli := jz_ln hW.2.2.2.1 hi
  have hlj := jz_ln hW.2.2.2.1 hj
  have hS2 := (List.forall_mem_cons.mp (List.forall_mem_cons.mp (List.forall_mem_cons.mp (List.forall_mem_cons.mp (List.forall_mem_cons.mp hS).2).2).2).2).2
  have hei := jzC_at (G := G) (ad := ad) hi
  have hej := jzC_at (G := G) (ad := ad) hj
  rw [jzE_ia] at hei hej
  have cl : ∀ z : Int, 0 ≤ z → z < 2147483648 → ¬ Int32.ofInt z < 0 ∧ (Int32.ofInt z).toNatClampNeg = z.toNat := fun z h0 h1 => by
    have hz : jin z := ⟨by omega, h1⟩
    refine ⟨fun q => ?_, ?_⟩
    · have := (jn_lt (b := 0) hz ⟨by decide, by decide⟩).mp q
      omega
    · show (Int32.ofInt z).toInt.toNat = _
      rw [jn_toInt hz]
  have c1 := cl sp h1 (by omega)
  have c2 := cl dp h2 (by omega)
  have c3 := cl n h3 (by omega)
  refine va_copyi hB.1 hB.2.1 (hB.2.2.1.trans hL.1.symm) hB.2.2.2.1 (hB.2.2.2.2.1 _ w1) (hB.2.2.2.2.1 _ w2) (hB.2.2.2.2.1 _ w3) (hB.2.2.2.2.1 _ w4) (jB_K hB) hW.1 hW.2.1 hW.2.2.1 i j 1 1 hei hej rfl rfl rfl c1.1 c2.1 c3.1 (by rw [c1.2, c3.2]; omega) (by rw [c2.2, c3.2]; omega) (fun _ _ => rfl) (by omega) ?_ hd (fun H1 locs1 hP1 hD1 hS1 => ?_)
  · rw [jct_sum]
    have : nativeFrameWords "java/lang/System" "arraycopy" 5 + 11 ≤ 100 := by decide +kernel
    omega
  · have hE : jzE G ad (h.1, jcp h.2.1 i sp j dp n, h.2.2) j (11, lj) = .inl (G.2.1 1, lj, .inl (va_cpy (fun (q : Nat) => Int32.ofInt (h.2.1 i (q : Int))) (fun (q : Nat) => Int32.ofInt (h.2.1 j (q : Int))) (Int32.ofInt sp).toNatClampNeg (Int32.ofInt dp).toNatClampNeg (Int32.ofInt n).toNatClampNeg)) := by
      rw [jzE_ia, c1.2, c2.2, c3.2]
      refine congrArg (fun x => Sum.inl (G.2.1 1, lj, Sum.inl x)) (funext fun q => ?_)
      show Int32.ofInt (jcp h.2.1 i sp j dp n j (q : Int)) = _
      unfold jcp va_cpy
      by_cases e : dp.toNat ≤ q ∧ q < dp.toNat + n.toNat
      · rw [if_pos ⟨rfl, by omega, by omega⟩, if_pos e]
        exact congrArg Int32.ofInt (congrArg (h.2.1 i) (by omega))
      · rw [if_neg (by rintro ⟨-, a1, a2⟩; exact e ⟨by omega, by omega⟩), if_neg e]
    rw [jzC_set (h' := (h.1, jcp h.2.1 i sp j dp n, h.2.2)) hj rfl hE (fun a sh' ha => jzE_other (fun b => by show jcp h.2.1 i sp j dp n a b = _; unfold jcp; rw [if_neg (fun q => ha q.1)]) (fun b => rfl))] at hP1 hD1
    have hok : jzok (h.1, jcp h.2.1 i sp j dp n, h.2.2) := ⟨hW.2.2.2.1.1, fun a b => by
      show jin (jcp h.2.1 i sp j dp n a b)
      unfold jcp
      split
      · exact hW.2.2.2.1.2.1 _ _
      · exact hW.2.2.2.1.2.1 _ _, hW.2.2.2.1.2.2⟩
    exact (k p l e R s m args below meth c A Qc XC mc ms free n0 ad0 ad ls H1 locs1 cells slots hB hF ⟨hP1, hD1, hS1, hok, hW.2.2.2.2.1, hW.2.2.2.2.2⟩ hL hS2 hc hs)
end Calls
