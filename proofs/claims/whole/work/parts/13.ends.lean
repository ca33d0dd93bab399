/-! NEW CELLS, CALLS, ENDS -/
def jnw {α : Type} (f : Nat → Int → α) (n : Nat) (v : α) : Nat → Int → α := fun a b => if a = n then v else f a b
theorem jnw_same {α : Type} (f : Nat → Int → α) (n : Nat) (v : α) (b : Int) : jnw f n v n b = v := by simp [jnw]
theorem jnw_ne {α : Type} (f : Nat → Int → α) {n a : Nat} (v : α) (b : Int) (h : a ≠ n) : jnw f n v a b = f a b := by simp [jnw, h]
/-- the cells with a new one of a kind and a length -/
def jzNew (h : jzH) (kd len : Nat) : jzH := (h.1 ++ [(kd, len)], jnw h.2.1 h.1.length 0, jnw h.2.2 h.1.length none)
theorem jzNew_ok {h : jzH} {kd len : Nat} (ho : jzok h) (hl : len < 2 ^ 31) : jzok (jzNew h kd len) := by
  refine ⟨fun i k j q => ?_, fun i k => ?_, fun sh hs => ?_⟩
  · have q : jnw h.2.2 h.1.length none i k = some j := q
    show j < (h.1 ++ [(kd, len)]).length
    rw [List.length_append]
    unfold jnw at q
    split at q
    · cases q
    · exact Nat.lt_of_lt_of_le (ho.1 i k j q) (Nat.le_add_right _ _)
  · show jin (jnw h.2.1 h.1.length 0 i k)
    unfold jnw
    split
    · exact ⟨by decide, by decide⟩
    · exact ho.2.1 i k
  · rcases List.mem_append.mp hs with q | q
    · exact ho.2.2 sh q
    · rw [List.mem_singleton.mp q]; exact hl
theorem jzE_new {G : jzG} {ad : Nat → Nat} {h : jzH} {kd len q j : Nat} {sh : Nat × Nat} (ho : jzok h) (hj : j < h.1.length) : jzE G (va_up ad h.1.length q) (jzNew h kd len) j sh = jzE G ad h j sh := by
  have h1 : ∀ k, (jzNew h kd len).2.1 j k = h.2.1 j k := fun k => jnw_ne _ _ _ (by omega)
  have h2 : ∀ k : Int, ((jzNew h kd len).2.2 j k).map (va_up ad h.1.length q) = (h.2.2 j k).map ad := by
    intro k
    show (jnw h.2.2 h.1.length none j k).map _ = _
    rw [jnw_ne _ _ _ (by omega)]
    cases hr : h.2.2 j k with
    | none => rfl
    | some a => exact congrArg some (va_up_ne _ _ (by have := ho.1 j k a hr; omega))
  have e : jzF (va_up ad h.1.length q) (jzNew h kd len) sh.1 j = jzF ad h sh.1 j := by funext k; simp only [jzF, h1, h2]
  simp only [jzE, h1, h2, e]
/-- the world with a new cell -/
theorem jzW_new {G : jzG} {A : Nat → Prop} {H0 H H1 : Heap} {n0 : Nat} {ad0 ad : Nat → Nat} {h : jzH} {locs : List Loc} {kd len q : Nat} {E : va_E} (hW : jzW G A H0 n0 ad0 ad h H locs) (hl : len < 2 ^ 31) (hE : jzE G (va_up ad h.1.length q) (jzNew h kd len) h.1.length (kd, len) = E)
    (hP : va_P G.1 vwCl (jzC G ad h ++ [(q, E)]) H1) (hD : va_D A (jzC G ad h ++ [(q, E)])) (hS : va_S A H0 H1 locs) : jzW G A H0 n0 ad0 (va_up ad h.1.length q) (jzNew h kd len) H1 locs := by
  have ho := hW.2.2.2.1
  rw [jzC_push (h' := jzNew h kd len) (ad' := va_up ad h.1.length q) (sh := (kd, len)) rfl (va_up_self _ _ _) (fun j hj => va_up_ne _ _ (by omega)) hE (fun j sh' hj => jzE_new ho hj)] at hP hD
  refine ⟨hP, hD, hS, jzNew_ok ho hl, ?_, fun i hi => ?_⟩
  · show n0 ≤ (h.1 ++ [(kd, len)]).length
    rw [List.length_append]
    exact Nat.le_trans hW.2.2.2.2.1 (Nat.le_add_right _ _)
  · rw [va_up_ne _ _ (by have := hW.2.2.2.2.1; omega)]
    exact hW.2.2.2.2.2 i hi
theorem jzL_ad {G : jzG} {ad ad' : Nat → Nat} {n n' nL : Nat} {L : List (Option jzV)} {ls : Array Slot} (hL : jzL G ad n nL L ls) (hn : n ≤ n') (ha : ∀ i, i < n → ad' i = ad i) : jzL G ad' n' nL L ls := ⟨hL.1, hL.2.1, fun i v q => by
  have := hL.2.2 i v q
  exact ⟨by rw [jzv_ad ha this.2.1]; exact this.1, jok_mono hn this.2.1, this.2.2⟩⟩
theorem jzS_ad {G : jzG} {ad ad' : Nat → Nat} {n : Nat} {S : List jzV} (hS : ∀ v ∈ S, jok n v) (ha : ∀ i, i < n → ad' i = ad i) : S.map (jzv G ad') = S.map (jzv G ad) := List.map_congr_left (fun v hv => jzv_ad ha (hS v hv))
theorem jz_len1 (h : jzH) (kd len : Nat) : (jzNew h kd len).1.length = h.1.length + 1 := by
  show (h.1 ++ [(kd, len)]).length = _
  rw [List.length_append]; rfl
theorem jz_def : ∀ ci, ci < 10 → ∀ j, j < jzN ci → defaultValue (jzT ci j) = if jzIsR (jzT ci j) = true then Value.null else .int 0 := by decide +kernel
theorem jzE_newobj {G : jzG} {ad : Nat → Nat} {h : jzH} {ci q : Nat} (hc : ci < 10) : jzE G (va_up ad h.1.length q) (jzNew h ci 0) h.1.length (ci, 0) = .inr (ci, (List.range (jzN ci)).map (fun j => if jzIsR (jzT ci j) = true then Value.null else .int 0)) := by
  rw [jzE_obj hc]
  refine congrArg (fun x => Sum.inr (ci, x)) (List.map_congr_left (fun j _ => ?_))
  unfold jzF
  show (if _ then va_rf ((jnw h.2.2 h.1.length none h.1.length (j : Int)).map _) else Value.int (Int32.ofInt (jnw h.2.1 h.1.length 0 h.1.length (j : Int)))) = _
  rw [jnw_same, jnw_same]
  rfl
section Rows3
variable {G : jzG} {M : jzM} {d pc rc rs : Nat} {Q : jzO → jzH → Prop} {L : List (Option jzV)} {S : List jzV} {h : jzH}
theorem j_new {idx ci : Nat} (hd : decode M.2.1 pc = .ok (.new idx, 3)) (hc1 : ci < 10) (w1 : Cond.classLink M.1.cls idx (jzCn ci) ∈ lw_good) (w2 : Cond.instantiable (jzCn ci) (jzN ci) ∈ lw_good) (w3 : Cond.initialized (jzCn ci) ∈ lw_good) (k : jW G M d Q (pc + 3) L (jR (some h.1.length) :: S) (jzNew h ci 0) rc rs) : jW G M d Q pc L S h (rc + 1) (rs + jzN ci) := by
  intro p l e R s m args below meth c A Qc XC mc ms free n0 ad0 ad ls H locs cells slots hB hF hW hL hS hc hs
  refine va_new (ci := ci) (fs := (List.range (jzN ci)).map (fun j => if jzIsR (jzT ci j) = true then Value.null else .int 0)) hB.1 hB.2.1 hB.2.2.2.2.1 (jz_in ci hc1) (jzT ci) (jz_ty ci hc1) hB.2.2.2.1 (hB.2.2.2.2.1 _ w1) (hB.2.2.2.2.1 _ w2) (hB.2.2.2.2.1 _ w3) (jB_K hB) hW.1 hW.2.1 hW.2.2.1 (jB_A hB) (jz_cl ci hc1) (fun j hj => by rw [jz_def ci hc1 j hj]; simp [vp_V, hj]) (by omega) (by omega) hd (fun q H1 hP1 hD1 hS1 => ?_)
  have ha : ∀ i, i < h.1.length → va_up ad h.1.length q i = ad i := fun i hi => va_up_ne _ _ (by omega)
  have kk := k p l e R s m args below meth c A Qc XC mc ms free n0 ad0 (va_up ad h.1.length q) ls H1 locs (cells + 1) (slots + jzN ci) hB hF (jzW_new hW (by decide) (jzE_newobj hc1) hP1 hD1 hS1) (jzL_ad hL (by rw [jz_len1]; omega) ha) (List.forall_mem_cons.mpr ⟨(by show h.1.length < (jzNew h ci 0).1.length; rw [jz_len1]; omega), fun v hv => jok_mono (by rw [jz_len1]; omega) (hS v hv)⟩) (by omega) (by omega)
  have e : (jR (some h.1.length) :: S).map (jzv G (va_up ad h.1.length q)) = .ref q :: S.map (jzv G ad) := by
    show Value.ref (va_up ad h.1.length q h.1.length) :: S.map _ = _
    rw [va_up_self, jzS_ad hS ha]
  rw [e] at kk
  exact kk
theorem j_newarr {kd t0 : Nat} {ty : FieldType} {atype : ArrayType} {z : Int} {len : Nat} (hd : decode M.2.1 pc = .ok (.newarray atype, 2)) (hk : (kd = 10 ∧ t0 = 0 ∧ ty = .byte) ∨ (kd = 11 ∧ t0 = 1 ∧ ty = .int) ∨ (kd = 13 ∧ t0 = 3 ∧ ty = .long)) (hty : newarray.typeOf atype = ty) (w1 : Cond.arrayClass ty ∈ lw_good) (hz : z = (len : Int)) (hl : len < 60000000) (k : jW G M d Q (pc + 2) L (jR (some h.1.length) :: S) (jzNew h kd len) rc rs) : jW G M d Q pc L (jI z :: S) h (rc + 1) (rs + len) := by
  intro p l e R s m args below meth c A Qc XC mc ms free n0 ad0 ad ls H locs cells slots hB hF hW hL hS hc hs
  subst hz
  have hS2 := (List.forall_mem_cons.mp hS).2
  have hin : jin (len : Int) := ⟨by omega, by omega⟩
  have hneg : ¬ Int32.ofInt (len : Int) < 0 := by
    intro q
    have := (jn_lt (b := 0) hin ⟨by decide, by decide⟩).mp q
    omega
  have hcl : (Int32.ofInt (len : Int)).toNatClampNeg = len := by
    show (Int32.ofInt (len : Int)).toInt.toNat = len
    rw [jn_toInt hin]; omega
  have hE : ∃ a0 : vp_A, (∀ cA : ClassId, vp_cell cA a0 = arrV cA len (fun _ => defaultValue ty)) ∧ ∀ q, jzE G (va_up ad h.1.length q) (jzNew h kd len) h.1.length (kd, len) = .inl (G.2.1 t0, a0) := by
    rcases hk with ⟨rfl, rfl, rfl⟩ | ⟨rfl, rfl, rfl⟩ | ⟨rfl, rfl, rfl⟩
    · exact ⟨(len, .inl (fun _ => 0)), fun _ => rfl, fun q => by
        rw [jzE_ba]
        refine congrArg (fun x => Sum.inl (G.2.1 0, len, Sum.inl x)) (funext fun j => ?_)
        show Int32.ofInt (jnw h.2.1 h.1.length 0 h.1.length _) = 0
        rw [jnw_same]; rfl⟩
    · exact ⟨(len, .inl (fun _ => 0)), fun _ => rfl, fun q => by
        rw [jzE_ia]
        refine congrArg (fun x => Sum.inl (G.2.1 1, len, Sum.inl x)) (funext fun j => ?_)
        show Int32.ofInt (jnw h.2.1 h.1.length 0 h.1.length _) = 0
        rw [jnw_same]; rfl⟩
    · exact ⟨(len, .inr (.inl (fun _ => 0))), fun _ => rfl, fun q => by
        rw [jzE_la]
        refine congrArg (fun x => Sum.inl (G.2.1 3, len, Sum.inr (Sum.inl x))) (funext fun j => ?_)
        show Int64.ofInt (jnw h.2.1 h.1.length 0 h.1.length _) = 0
        rw [jnw_same]; rfl⟩
  obtain ⟨a0, ha0, hE⟩ := hE
  have hT : (jzTy G)[t0]? = some (G.2.1 t0, ty) := by rcases hk with ⟨rfl, rfl, rfl⟩ | ⟨rfl, rfl, rfl⟩ | ⟨rfl, rfl, rfl⟩ <;> rfl
  have hnc : ∀ U cA, va_RA U cA ty → U.vm.findClass ("[" ++ ty.toString) = some cA := by
    intro U cA q
    rcases hk with ⟨-, -, rfl⟩ | ⟨-, -, rfl⟩ | ⟨-, -, rfl⟩ <;> exact q
  have hcb : len * componentBytes ty ≤ 536870912 := by
    rcases hk with ⟨-, -, rfl⟩ | ⟨-, -, rfl⟩ | ⟨-, -, rfl⟩ <;> simp only [componentBytes] <;> omega
  refine va_newa hB.1 hB.2.1 (by rw [hty]; exact hB.2.2.2.2.1 _ w1) hty (jB_K hB) hW.1 hW.2.1 hW.2.2.1 (jB_A hB) ha0 hneg hcl hcb (by omega) (by omega) hd (fun q cA H1 hK1 hP1 hD1 hS1 => ?_)
  have hcA : cA = G.2.1 t0 := by
    have h1 := hnc s cA (hK1.2 4 (cA, ty) (by rw [List.getElem?_append_right (by simp [jzTy])]; rfl)).2
    have h2 := hnc s _ ((jB_K hB).2 t0 _ hT).2
    exact Option.some.inj (h1.symm.trans h2)
  subst hcA
  have ha : ∀ i, i < h.1.length → va_up ad h.1.length q i = ad i := fun i hi => va_up_ne _ _ (by omega)
  have kk := k p l e R s m args below meth c A Qc XC mc ms free n0 ad0 (va_up ad h.1.length q) ls H1 locs (cells + 1) (slots + len) hB hF (jzW_new hW (by omega) (hE q) hP1 hD1 hS1) (jzL_ad hL (by rw [jz_len1]; omega) ha) (List.forall_mem_cons.mpr ⟨(by show h.1.length < (jzNew h kd len).1.length; rw [jz_len1]; omega), fun v hv => jok_mono (by rw [jz_len1]; omega) (hS2 v hv)⟩) (by omega) (by omega)
  have e : (jR (some h.1.length) :: S).map (jzv G (va_up ad h.1.length q)) = .ref q :: S.map (jzv G ad) := by
    show Value.ref (va_up ad h.1.length q h.1.length) :: S.map _ = _
    rw [va_up_self, jzS_ad hS2 ha]
  rw [e] at kk
  exact kk
theorem j_anew {idx : Nat} {z : Int} {len : Nat} (hd : decode M.2.1 pc = .ok (.anewarray idx, 3)) (w1 : Cond.classLink M.1.cls idx "PainBank$State" ∈ lw_good) (hz : z = (len : Int)) (hl : len < 60000000) (k : jW G M d Q (pc + 3) L (jR (some h.1.length) :: S) (jzNew h 12 len) rc rs) : jW G M d Q pc L (jI z :: S) h (rc + 1) (rs + len) := by
  intro p l e R s m args below meth c A Qc XC mc ms free n0 ad0 ad ls H locs cells slots hB hF hW hL hS hc hs
  subst hz
  have hS2 := (List.forall_mem_cons.mp hS).2
  have hin : jin (len : Int) := ⟨by omega, by omega⟩
  have hneg : ¬ Int32.ofInt (len : Int) < 0 := by
    intro q
    have := (jn_lt (b := 0) hin ⟨by decide, by decide⟩).mp q
    omega
  have hcl : (Int32.ofInt (len : Int)).toNatClampNeg = len := by
    show (Int32.ofInt (len : Int)).toInt.toNat = len
    rw [jn_toInt hin]; omega
  refine va_newq hB.1 hB.2.1 hB.2.2.2.1 (hB.2.2.2.2.1 _ w1) (jB_ex hB).2.2.2.2.2.2.1 (jB_K hB) hW.1 hW.2.1 hW.2.2.1 (jB_A hB) hneg hcl (by omega) (by omega) (by omega) hd (fun q cA H1 hK1 hP1 hD1 hS1 => ?_)
  have hcA : cA = G.2.1 2 := by
    obtain ⟨kA, comp, -, -, -, h1⟩ := (hK1.2 4 (cA, .object "PainBank$State") (by rw [List.getElem?_append_right (by simp [jzTy])]; rfl)).2
    obtain ⟨kA2, comp2, -, -, -, h2⟩ := ((jB_K hB).2 2 (G.2.1 2, .object "PainBank$State") rfl).2
    exact Option.some.inj (h1.symm.trans h2)
  subst hcA
  have ha : ∀ i, i < h.1.length → va_up ad h.1.length q i = ad i := fun i hi => va_up_ne _ _ (by omega)
  have hE : jzE G (va_up ad h.1.length q) (jzNew h 12 len) h.1.length (12, len) = .inl (G.2.1 2, len, .inr (.inr (.inr (.inr (fun _ => none))))) := by
    rw [jzE_ra]
    refine congrArg (fun x => Sum.inl (G.2.1 2, len, Sum.inr (Sum.inr (Sum.inr (Sum.inr x))))) (funext fun j => ?_)
    show (jnw h.2.2 h.1.length none h.1.length _).map _ = none
    rw [jnw_same]; rfl
  have kk := k p l e R s m args below meth c A Qc XC mc ms free n0 ad0 (va_up ad h.1.length q) ls H1 locs (cells + 1) (slots + len) hB hF (jzW_new hW (by omega) hE hP1 hD1 hS1) (jzL_ad hL (by rw [jz_len1]; omega) ha) (List.forall_mem_cons.mpr ⟨(by show h.1.length < (jzNew h 12 len).1.length; rw [jz_len1]; omega), fun v hv => jok_mono (by rw [jz_len1]; omega) (hS2 v hv)⟩) (by omega) (by omega)
  have e : (jR (some h.1.length) :: S).map (jzv G (va_up ad h.1.length q)) = .ref q :: S.map (jzv G ad) := by
    show Value.ref (va_up ad h.1.length q h.1.length) :: S.map _ = _
    rw [va_up_self, jzS_ad hS2 ha]
  rw [e] at kk
  exact kk
/-! ### ends -/
theorem j_iret {z : Int} (hd : decode M.2.1 pc = .ok (.ireturn, 1)) (hr : M.2.2.2.1 = some .int) (hq : Q (.inl (some (jI z))) h) : jW G M d Q pc L [jI z] h rc rs := by
  intro p l e R s m args below meth c A Qc XC mc ms free n0 ad0 ad ls H locs cells slots hB hF hW hL hS hc hs
  obtain ⟨f1, f2, f3, f4, f5⟩ := hF
  refine W.widen (k := mc) (n := ms) (by omega) (by omega) (vx_ret ?_)
  exact W.iret hB.1 hB.2.1 (hB.2.2.2.2.2.2.2.2.1.trans hr) (fun t ht hW2 => f1 t (some (jI z)) h ad locs hW2 (by rw [ht]; exact hW) (fun v q => by cases q; trivial) hq) (fun q hq => f3 _ (hW.2.2.1.2.2 q hq)) hd hB.2.2.2.2.2.2.1
theorem j_gret {z : Int} {ty : FieldType} (hd : decode M.2.1 pc = .ok (.ireturn, 1)) (hr : M.2.2.2.1 = some ty) (hn : narrow ty (.int (Int32.ofInt z)) = .int (Int32.ofInt z)) (hq : Q (.inl (some (jI z))) h) : jW G M d Q pc L [jI z] h rc rs := by
  intro p l e R s m args below meth c A Qc XC mc ms free n0 ad0 ad ls H locs cells slots hB hF hW hL hS hc hs
  obtain ⟨f1, f2, f3, f4, f5⟩ := hF
  refine W.widen (k := mc) (n := ms) (by omega) (by omega) (vx_ret ?_)
  exact W.zret hB.1 hB.2.1 (hB.2.2.2.2.2.2.2.2.1.trans hr) hn (fun t ht hW2 => f1 t (some (jI z)) h ad locs hW2 (by rw [ht]; exact hW) (fun v q => by cases q; trivial) hq) (fun q hq => f3 _ (hW.2.2.1.2.2 q hq)) hd hB.2.2.2.2.2.2.1
theorem j_zret {z : Int} (hd : decode M.2.1 pc = .ok (.ireturn, 1)) (hr : M.2.2.2.1 = some .boolean) (hz : z = 0 ∨ z = 1) (hq : Q (.inl (some (jI z))) h) : jW G M d Q pc L [jI z] h rc rs := j_gret hd hr (jz_bool hz).1 hq
theorem j_vret (hd : decode M.2.1 pc = .ok (.return_, 1)) (hr : M.2.2.2.1 = none) (hq : Q (.inl none) h) : jW G M d Q pc L [] h rc rs := by
  intro p l e R s m args below meth c A Qc XC mc ms free n0 ad0 ad ls H locs cells slots hB hF hW hL hS hc hs
  obtain ⟨f1, f2, f3, f4, f5⟩ := hF
  refine W.widen (k := mc) (n := ms) (by omega) (by omega) (vx_ret ?_)
  exact W.vret hB.1 hB.2.1 (hB.2.2.2.2.2.2.2.2.1.trans hr) (fun t ht hW2 => f1 t none h ad locs hW2 (by rw [ht]; exact hW) (fun v q => by cases q) hq) (fun q hq => f3 _ (hW.2.2.1.2.2 q hq)) hd hB.2.2.2.2.2.2.1
theorem j_aret {r : Option Nat} {rt : FieldType} (hd : decode M.2.1 pc = .ok (.areturn, 1)) (hr : M.2.2.2.1 = some rt) (hrt : (∃ n, rt = .object n) ∨ ∃ t, rt = .array t) (hq : Q (.inl (some (jR r))) h) : jW G M d Q pc L [jR r] h rc rs := by
  intro p l e R s m args below meth c A Qc XC mc ms free n0 ad0 ad ls H locs cells slots hB hF hW hL hS hc hs
  obtain ⟨f1, f2, f3, f4, f5⟩ := hF
  refine W.widen (k := mc) (n := ms) (by omega) (by omega) (vx_ret ?_)
  exact W.aret (v := jzv G ad (jR r)) hB.1 hB.2.1 (hB.2.2.2.2.2.2.2.2.1.trans hr) hrt (by cases r with | none => exact Or.inl rfl | some a => exact Or.inr ⟨_, rfl⟩) (fun t ht hW2 => f1 t (some (jR r)) h ad locs hW2 (by rw [ht]; exact hW) (fun v q => by cases q; exact (List.forall_mem_cons.mp hS).1) hq) (fun q hq => f3 _ (hW.2.2.1.2.2 q hq)) hd hB.2.2.2.2.2.2.1
/-- what a callee has thrown goes on, if this method has no table -/
theorem j_out {E : String} (ht : M.2.2.2.2 = []) (hq : Q (.inr E) h) : jWx G M d Q pc L E h rc rs := by
  intro p l e R s m args below meth c A Qc XC mc ms free n0 ad0 ad ls H locs cells slots st q ce hB hF hW hL hc hs hcell hv hcl
  obtain ⟨f1, f2, f3, f4, f5⟩ := hF
  have htb := jB_tab hB
  rw [ht] at htb
  exact vx_out (fun x hx => by rw [htb] at hx; cases hx) hB.2.2.2.2.2.2.1 hcell hv hcl (fun t ht2 hal => f2 t E h ad locs hal (by rw [ht2]; exact hW) hq) (fun z hz => f3 _ (hW.2.2.1.2.2 z hz)) (by omega) (by omega)
/-- words of a throw -/
def jTh (own : String) (E text : String) (ik is ic t : Nat) : Prop := Cond.classLink own ik E ∈ lw_good ∧ Cond.initialized E ∈ lw_good ∧ (own, is, t) ∈ jzSt ∧ jzTx.getD t "" = text ∧ Bundle.fit E = true ∧
  (∀ w ∈ vx_atS own ic E ["java/lang/RuntimeException", "java/lang/Exception"], w ∈ lw_good ∨ (w ∈ lw_tbl ∧ jzWk w = true)) ∧
  (∀ w ∈ Cond.classLink own ik E :: Cond.initialized E :: vx_atS own ic E ["java/lang/RuntimeException", "java/lang/Exception"], vx_ot w = true)
theorem j_throw {E text : String} {ik is ic t : Nat} (d0 : decode M.2.1 pc = .ok (.new ik, 3)) (d3 : decode M.2.1 (pc + 3) = .ok (.dup, 1)) (d4 : decode M.2.1 (pc + 4) = .ok (.ldc is, 2)) (d6 : decode M.2.1 (pc + 6) = .ok (.invokespecial ic, 3)) (d9 : decode M.2.1 (pc + 9) = .ok (.athrow, 1))
    (ht : M.2.2.2.2 = []) (hw : jTh M.1.cls E text ik is ic t) (hq : Q (.inr E) h) : jW G M d Q pc L [] h (rc + 1) (rs + 6) := by
  intro p l e R s m args below meth c A Qc XC mc ms free n0 ad0 ad ls H locs cells slots hB hF hW hL hS hc hs
  obtain ⟨f1, f2, f3, f4, f5⟩ := hF
  obtain ⟨w1, w2, w3, w4, w5, w6, w7⟩ := hw
  have htb := jB_tab hB
  rw [ht] at htb
  have hex := jB_ex hB
  have hrm := jB_room hB
  refine vx_throwS (mc := mc) (ms := ms) hB.1 hB.2.1 hB.2.2.2.2.2.1 (own := M.1.cls) (cls := E) (text := text) (names := ["java/lang/RuntimeException", "java/lang/Exception"]) (sa := G.2.2.1 (t + 1)) hB.2.2.2.1 w5 (by decide +kernel) (hB.2.2.2.2.1 _ w1) (hB.2.2.2.2.1 _ w2) (by rw [← w4]; exact hex.2.2.2.2.1 _ w3) (fun w hw => ?_) w7 hex.1 hex.2.1 hW.2.2.1 (hL.1.trans hB.2.2.1.symm) d0 d3 d4 d6 d9 (fun x hx => by rw [htb] at hx; cases hx) (by simp only [List.length_cons, List.length_nil]; omega) (by simp only [List.map_nil, List.sum_nil, List.length_cons, List.length_nil]; omega) (by omega) (by omega) hB.2.2.2.2.2.2.1 (fun t2 hal hz hk => ?_) (fun z hz => f3 _ (hW.2.2.1.2.2 z hz)) (by omega) (by omega)
  · rcases w6 w hw with q | ⟨q1, q2⟩
    · exact hB.2.2.2.2.1 _ q
    · exact va_Nw.use (jzWk_tab q2) (hex.2.2.2.2.2.1 w q1 q2)
  · refine f2 t2 E h ad locs hal ⟨?_, hW.2.1, ?_, hW.2.2.2⟩ hq
    · refine hW.1.kept (fun k9 q9 hq9 => hk _ ?_)
      have := hW.1 k9 q9 hq9
      exact va_at.lt this
    · exact ⟨Nat.le_trans hW.2.2.1.1 hz, fun q hq hA2 => by rw [hk q (Nat.lt_of_lt_of_le hq hW.2.2.1.1)]; exact hW.2.2.1.2.1 q hq hA2, hW.2.2.1.2.2⟩
end Rows3
