/-! FIELDS, ARRAYS, NEW CELLS -/
theorem lw_ins (ws : List Cond) (ps : List Nat) (hp : ws = ps.filterMap (fun i => lw_tbl[i]?)) (h : ws.all goodWord = true) : ∀ w ∈ ws, w ∈ lw_good := by
  intro w hw
  have h1 := List.all_eq_true.mp h w hw
  rw [hp] at hw
  obtain ⟨i, -, hi⟩ := List.mem_filterMap.mp hw
  exact lw_in i hi h1
theorem inG0 : ∀ w ∈ u_ws RX2 TX2 10, w ∈ lw_good := lw_ins _ [375, 377, 379, 381, 383, 385, 387, 389, 391, 393] (by decide +kernel) (by decide +kernel)
theorem inG1 : ∀ w ∈ u_ws RX4 TX4 3, w ∈ lw_good := lw_ins _ [405, 407, 409] (by decide +kernel) (by decide +kernel)
theorem inG2 : ∀ w ∈ u_ws RX5 TX5 5, w ∈ lw_good := lw_ins _ [1021, 1023, 1025, 1027, 1029] (by decide +kernel) (by decide +kernel)
theorem inG3 : ∀ w ∈ u_ws RX6 TX6 6, w ∈ lw_good := lw_ins _ [342, 344, 346, 348, 350, 352] (by decide +kernel) (by decide +kernel)
theorem inG4 : ∀ w ∈ u_ws RX7 TX7 3, w ∈ lw_good := lw_ins _ [152, 154, 156] (by decide +kernel) (by decide +kernel)
theorem inG5 : ∀ w ∈ u_ws RX8 TX8 3, w ∈ lw_good := lw_ins _ [291, 293, 295] (by decide +kernel) (by decide +kernel)
theorem inG6 : ∀ w ∈ u_ws RX9 TX9 20, w ∈ lw_good := lw_ins _ [237, 239, 241, 243, 245, 247, 249, 251, 253, 255, 257, 259, 261, 263, 265, 267, 269, 271, 273, 275] (by decide +kernel) (by decide +kernel)
theorem inG7 : ∀ w ∈ u_ws RX10 TX10 7, w ∈ lw_good := lw_ins _ [315, 317, 319, 321, 323, 325, 327] (by decide +kernel) (by decide +kernel)
theorem inG8 : ∀ w ∈ u_ws RX11 TX11 12, w ∈ lw_good := lw_ins _ [424, 426, 428, 430, 432, 434, 436, 438, 440, 442, 444, 446] (by decide +kernel) (by decide +kernel)
theorem inG9 : ∀ w ∈ u_ws RX12 TX12 25, w ∈ lw_good := lw_ins _ [1431, 1433, 1435, 1437, 1439, 1441, 1443, 1445, 1447, 1449, 1451, 1453, 1455, 1457, 1459, 1461, 1463, 1465, 1467, 1469, 1471, 1473, 1475, 1477, 1479] (by decide +kernel) (by decide +kernel)
theorem jz_cl : ∀ ci, ci < 10 → vwCl[ci]? = some (jzCn ci, jzTb ci, jzN ci)
  | 0, _ => rfl | 1, _ => rfl | 2, _ => rfl | 3, _ => rfl | 4, _ => rfl | 5, _ => rfl | 6, _ => rfl | 7, _ => rfl | 8, _ => rfl | 9, _ => rfl
  | n + 10, h => absurd h (by omega)
theorem jz_in : ∀ ci, ci < 10 → ∀ w ∈ u_ws (jzCn ci) (jzTb ci) (jzN ci), w ∈ lw_good
  | 0, _ => inG0 | 1, _ => inG1 | 2, _ => inG2 | 3, _ => inG3 | 4, _ => inG4 | 5, _ => inG5 | 6, _ => inG6 | 7, _ => inG7 | 8, _ => inG8 | 9, _ => inG9
  | n + 10, h => absurd h (by omega)
theorem jz_ty : ∀ ci, ci < 10 → ∀ k, k < jzN ci → parseFieldDescriptor (jzTb ci k).2.2.1 = some (jzT ci k)
  | 0, _ => tyX2_ok | 1, _ => tyX4_ok | 2, _ => tyX5_ok | 3, _ => tyX6_ok | 4, _ => tyX7_ok | 5, _ => tyX8_ok | 6, _ => tyX9_ok | 7, _ => tyX10_ok | 8, _ => tyX11_ok | 9, _ => tyX12_ok
  | n + 10, h => absurd h (by omega)
theorem jz_nm : ∀ ci, ci < 10 → ∀ a, a < jzN ci → ∀ b, b < jzN ci → a ≠ b → (jzTb ci a).2.1 ≠ (jzTb ci b).2.1
  | 0, _ => nmX2 | 1, _ => nmX4 | 2, _ => nmX5 | 3, _ => nmX6 | 4, _ => nmX7 | 5, _ => nmX8 | 6, _ => nmX9 | 7, _ => nmX10 | 8, _ => nmX11 | 9, _ => nmX12
  | n + 10, h => absurd h (by omega)
def jzIsO : FieldType → Bool
  | .object _ => true
  | .array _ => true
  | _ => false
theorem jzIsO_R {t : FieldType} (h : jzIsO t = true) : jzIsR t = true := by cases t <;> first | rfl | cases h
/-- an int field (or boolean), a field of references: class, its number among the class's fields -/
def jFI (own : String) (idx ci k : Nat) (kz : Int) : Prop := kz = (k : Int) ∧ ci < 10 ∧ k < jzN ci ∧ (jzT ci k = .int ∨ jzT ci k = .boolean) ∧ Cond.fieldLink own idx (jzTb ci k).1 (jzTb ci k).2.1 (jzTb ci k).2.2.1 ∈ lw_good
def jFR (own : String) (idx ci k : Nat) (kz : Int) : Prop := kz = (k : Int) ∧ ci < 10 ∧ k < jzN ci ∧ jzIsO (jzT ci k) = true ∧ Cond.fieldLink own idx (jzTb ci k).1 (jzTb ci k).2.1 (jzTb ci k).2.2.1 ∈ lw_good
theorem jzE_obj {G : jzG} {ad : Nat → Nat} {h : jzH} {i ci len : Nat} (hc : ci < 10) : jzE G ad h i (ci, len) = .inr (ci, (List.range (jzN ci)).map (jzF ad h ci i)) := by
  unfold jzE; rw [if_pos hc]
theorem jzE_ia {G : jzG} {ad : Nat → Nat} {h : jzH} {i len : Nat} : jzE G ad h i (11, len) = .inl (G.2.1 1, len, .inl (fun j => Int32.ofInt (h.2.1 i (j : Int)))) := by simp [jzE]
theorem jzE_ba {G : jzG} {ad : Nat → Nat} {h : jzH} {i len : Nat} : jzE G ad h i (10, len) = .inl (G.2.1 0, len, .inl (fun j => Int32.ofInt (h.2.1 i (j : Int)))) := by simp [jzE]
theorem jzE_ra {G : jzG} {ad : Nat → Nat} {h : jzH} {i len : Nat} : jzE G ad h i (12, len) = .inl (G.2.1 2, len, .inr (.inr (.inr (.inr (fun j => (h.2.2 i (j : Int)).map ad))))) := by simp [jzE]
theorem jzE_la {G : jzG} {ad : Nat → Nat} {h : jzH} {i len : Nat} : jzE G ad h i (13, len) = .inl (G.2.1 3, len, .inr (.inl (fun j => Int64.ofInt (h.2.1 i (j : Int))))) := by simp [jzE]
theorem jzF_at {ad : Nat → Nat} {h : jzH} {ci i k : Nat} (hk : k < jzN ci) : ((List.range (jzN ci)).map (jzF ad h ci i))[k]? = some (jzF ad h ci i k) := by simp [hk]
theorem jzF_set {ad : Nat → Nat} {h h' : jzH} {ci i k : Nat} {v : Value} (hv : jzF ad h' ci i k = v) (ho : ∀ j, j ≠ k → jzF ad h' ci i j = jzF ad h ci i j) : (List.range (jzN ci)).map (jzF ad h' ci i) = ((List.range (jzN ci)).map (jzF ad h ci i)).set k v := by
  apply List.ext_getElem?
  intro j
  rw [List.getElem?_set]
  by_cases e : k = j
  · subst e
    rw [if_pos rfl]
    by_cases hk : k < jzN ci
    · simp [hk, hv]
    · simp [hk]
  · rw [if_neg e]
    by_cases hj : j < jzN ci
    · simp [hj, ho j (fun q => e q.symm)]
    · simp [hj]
theorem jzE_other {G : jzG} {ad : Nat → Nat} {h h' : jzH} {j : Nat} {sh : Nat × Nat} (h1 : ∀ k, h'.2.1 j k = h.2.1 j k) (h2 : ∀ k, h'.2.2 j k = h.2.2 j k) : jzE G ad h' j sh = jzE G ad h j sh := by
  have e : jzF ad h' sh.1 j = jzF ad h sh.1 j := by funext k; simp only [jzF, h1, h2]
  simp only [jzE, h1, h2, e]
theorem jzok_upI {h : jzH} {i : Nat} {k z : Int} (ho : jzok h) (hz : jin z) : jzok (h.1, jup h.2.1 i k z, h.2.2) := ⟨ho.1, fun a b => by
  show jin (jup h.2.1 i k z a b)
  unfold jup
  split
  · exact hz
  · exact ho.2.1 a b, ho.2.2⟩
theorem jzok_upR {h : jzH} {i : Nat} {k : Int} {r : Option Nat} (ho : jzok h) (hr : ∀ a, r = some a → a < h.1.length) : jzok (h.1, h.2.1, jup h.2.2 i k r) := ⟨fun a b j q => by
  have q : jup h.2.2 i k r a b = some j := q
  unfold jup at q
  split at q
  · exact hr j q
  · exact ho.1 a b j q, ho.2.1, ho.2.2⟩
/-- the world with one int changed, one reference changed -/
theorem jzW_I {G : jzG} {A : Nat → Prop} {H0 H H1 : Heap} {n0 : Nat} {ad0 ad : Nat → Nat} {h : jzH} {locs locs1 : List Loc} {i : Nat} {k z : Int} {sh : Nat × Nat} {E : va_E} (hW : jzW G A H0 n0 ad0 ad h H locs) (hi : h.1[i]? = some sh) (hz : jin z) (hE : jzE G ad (h.1, jup h.2.1 i k z, h.2.2) i sh = E)
    (hP : va_P G.1 vwCl ((jzC G ad h).set i (ad i, E)) H1) (hD : va_D A ((jzC G ad h).set i (ad i, E))) (hS : va_S A H0 H1 locs1) : jzW G A H0 n0 ad0 ad (h.1, jup h.2.1 i k z, h.2.2) H1 locs1 := by
  rw [jzC_set (h' := (h.1, jup h.2.1 i k z, h.2.2)) hi rfl hE (fun j sh' hj => jzE_other (fun b => jup_cell _ _ _ _ hj) (fun b => rfl))] at hP hD
  exact ⟨hP, hD, hS, jzok_upI hW.2.2.2.1 hz, hW.2.2.2.2.1, hW.2.2.2.2.2⟩
theorem jzW_R {G : jzG} {A : Nat → Prop} {H0 H H1 : Heap} {n0 : Nat} {ad0 ad : Nat → Nat} {h : jzH} {locs locs1 : List Loc} {i : Nat} {k : Int} {r : Option Nat} {sh : Nat × Nat} {E : va_E} (hW : jzW G A H0 n0 ad0 ad h H locs) (hi : h.1[i]? = some sh) (hr : ∀ a, r = some a → a < h.1.length) (hE : jzE G ad (h.1, h.2.1, jup h.2.2 i k r) i sh = E)
    (hP : va_P G.1 vwCl ((jzC G ad h).set i (ad i, E)) H1) (hD : va_D A ((jzC G ad h).set i (ad i, E))) (hS : va_S A H0 H1 locs1) : jzW G A H0 n0 ad0 ad (h.1, h.2.1, jup h.2.2 i k r) H1 locs1 := by
  rw [jzC_set (h' := (h.1, h.2.1, jup h.2.2 i k r)) hi rfl hE (fun j sh' hj => jzE_other (fun b => rfl) (fun b => jup_cell _ _ _ _ hj))] at hP hD
  exact ⟨hP, hD, hS, jzok_upR hW.2.2.2.1 hr, hW.2.2.2.2.1, hW.2.2.2.2.2⟩
theorem jn_cl {z : Int} {n : Nat} (h0 : 0 ≤ z) (h1 : z < n) (hn : n < 2 ^ 31) : vp_in (Int32.ofInt z) n ∧ (((Int32.ofInt z).toNatClampNeg : Nat) : Int) = z := by
  have e : (Int32.ofInt z).toInt = z := jn_toInt ⟨by omega, by omega⟩
  refine ⟨vp_in_iff.mpr ⟨by omega, by omega⟩, ?_⟩
  show (((Int32.ofInt z).toInt.toNat : Nat) : Int) = z
  rw [e]; omega
section Rows2
variable {G : jzG} {M : jzM} {d pc rc rs : Nat} {Q : jzO → jzH → Prop} {L : List (Option jzV)} {S : List jzV} {h : jzH}
theorem j_getI {i idx ci k0 len : Nat} {kz : Int} (hd : decode M.2.1 pc = .ok (.getfield idx, 3)) (hf : jFI M.1.cls idx ci k0 kz) (hi : h.1[i]? = some (ci, len)) (k : jin (h.2.1 i kz) → jW G M d Q (pc + 3) L (jI (h.2.1 i kz) :: S) h rc rs) : jW G M d Q pc L (jR (some i) :: S) h rc rs := by
  intro p l e R s m args below meth c A Qc XC mc ms free n0 ad0 ad ls H locs cells slots hB hF hW hL hS hc hs
  obtain ⟨rfl, hc1, hk1, ht1, hw1⟩ := hf
  have he := jzC_at (G := G) (ad := ad) hi
  rw [jzE_obj hc1] at he
  have hv : jzF ad h ci i k0 = .int (Int32.ofInt (h.2.1 i (k0 : Int))) := by
    unfold jzF
    rw [if_neg (by rcases ht1 with q | q <;> rw [q] <;> decide)]
  refine va_get hB.1 hB.2.1 hB.2.2.2.2.1 (jz_in ci hc1) hB.2.2.2.1 hB.2.2.2.2.2.2.2.2.2.2.2.1 hW.1 i he (jz_cl ci hc1) k0 hk1 (hB.2.2.2.2.1 _ hw1) (fun _ q => q) ((jzF_at hk1).trans (congrArg some hv)) hd ?_
  exact (k (hW.2.2.2.1.2.1 i _)) p l e R s m args below meth c A Qc XC mc ms free n0 ad0 ad ls H locs cells slots hB hF hW hL (List.forall_mem_cons.mpr ⟨trivial, (List.forall_mem_cons.mp hS).2⟩) hc hs
theorem j_getR {i idx ci len k0 : Nat} {kz : Int} (hd : decode M.2.1 pc = .ok (.getfield idx, 3)) (hf : jFR M.1.cls idx ci k0 kz) (hi : h.1[i]? = some (ci, len)) (k : jW G M d Q (pc + 3) L (jR (h.2.2 i kz) :: S) h rc rs) : jW G M d Q pc L (jR (some i) :: S) h rc rs := by
  intro p l e R s m args below meth c A Qc XC mc ms free n0 ad0 ad ls H locs cells slots hB hF hW hL hS hc hs
  obtain ⟨rfl, hc1, hk1, ht1, hw1⟩ := hf
  have he := jzC_at (G := G) (ad := ad) hi
  rw [jzE_obj hc1] at he
  have hv : jzF ad h ci i k0 = jzv G ad (jR (h.2.2 i (k0 : Int))) := by
    unfold jzF
    rw [if_pos (jzIsO_R ht1)]
    cases h.2.2 i (k0 : Int) <;> rfl
  refine va_get hB.1 hB.2.1 hB.2.2.2.2.1 (jz_in ci hc1) hB.2.2.2.1 hB.2.2.2.2.2.2.2.2.2.2.2.1 hW.1 i he (jz_cl ci hc1) k0 hk1 (hB.2.2.2.2.1 _ hw1) (fun _ q => q) ((jzF_at hk1).trans (congrArg some hv)) hd ?_
  refine (k p l e R s m args below meth c A Qc XC mc ms free n0 ad0 ad ls H locs cells slots hB hF hW hL (List.forall_mem_cons.mpr ⟨?_, (List.forall_mem_cons.mp hS).2⟩) hc hs)
  cases hr : h.2.2 i (k0 : Int) with
  | none => exact trivial
  | some a => exact hW.2.2.2.1.1 i _ a hr
theorem jz_bool {z : Int} (h : z = 0 ∨ z = 1) : narrow .boolean (.int (Int32.ofInt z)) = .int (Int32.ofInt z) ∧ fits .boolean (.int (Int32.ofInt z)) = true ∧ jin z := by
  rcases h with rfl | rfl <;> refine ⟨by decide, by decide, ⟨by decide, by decide⟩⟩
theorem jz_fitI {ci k : Nat} {z : Int} (ht : jzT ci k = .int ∨ jzT ci k = .boolean) (hz : jin z) (hb : jzT ci k = .boolean → z = 0 ∨ z = 1) : narrow (jzT ci k) (.int (Int32.ofInt z)) = .int (Int32.ofInt z) ∧ fits (jzT ci k) (.int (Int32.ofInt z)) = true := by
  rcases ht with q | q
  · rw [q]; exact ⟨vp_nar_int _, rfl⟩
  · have := jz_bool (hb q)
    rw [q]; exact ⟨this.1, this.2.1⟩
theorem jzE_setI {ad : Nat → Nat} {i ci len k0 : Nat} {z : Int} (hc1 : ci < 10) (ht1 : jzT ci k0 = .int ∨ jzT ci k0 = .boolean) : jzE G ad (h.1, jup h.2.1 i (k0 : Int) z, h.2.2) i (ci, len) = .inr (ci, ((List.range (jzN ci)).map (jzF ad h ci i)).set k0 (.int (Int32.ofInt z))) := by
  rw [jzE_obj hc1]
  refine congrArg (fun x => Sum.inr (ci, x)) (jzF_set ?_ ?_)
  · unfold jzF
    rw [if_neg (by rcases ht1 with q | q <;> rw [q] <;> decide)]
    show Value.int (Int32.ofInt (jup h.2.1 i (k0 : Int) z i (k0 : Int))) = _
    rw [jup_same]
  · intro j hj
    unfold jzF
    show (if _ then _ else Value.int (Int32.ofInt (jup h.2.1 i (k0 : Int) z i (j : Int)))) = _
    rw [jup_row _ _ _ (by omega)]
theorem jzE_setR {ad : Nat → Nat} {i ci len k0 : Nat} {r : Option Nat} (hc1 : ci < 10) (ht1 : jzIsO (jzT ci k0) = true) : jzE G ad (h.1, h.2.1, jup h.2.2 i (k0 : Int) r) i (ci, len) = .inr (ci, ((List.range (jzN ci)).map (jzF ad h ci i)).set k0 (jzv G ad (jR r))) := by
  rw [jzE_obj hc1]
  refine congrArg (fun x => Sum.inr (ci, x)) (jzF_set ?_ ?_)
  · unfold jzF
    rw [if_pos (jzIsO_R ht1)]
    show va_rf ((jup h.2.2 i (k0 : Int) r i (k0 : Int)).map ad) = _
    rw [jup_same]
    cases r <;> rfl
  · intro j hj
    unfold jzF
    show (if _ then va_rf ((jup h.2.2 i (k0 : Int) r i (j : Int)).map ad) else _) = _
    rw [jup_row _ _ _ (by omega)]
theorem jz_len {ad : Nat → Nat} {i ci k0 : Nat} (hk : k0 < jzN ci) : k0 < ((List.range (jzN ci)).map (jzF ad h ci i)).length := by simpa using hk
theorem j_putI {i idx ci len k0 : Nat} {kz z : Int} (hd : decode M.2.1 pc = .ok (.putfield idx, 3)) (hf : jFI M.1.cls idx ci k0 kz) (hfin : (jzTb ci k0).2.2.2 = false) (hi : h.1[i]? = some (ci, len)) (hz : jin z) (hb : jzT ci k0 = .boolean → z = 0 ∨ z = 1) (k : jW G M d Q (pc + 3) L S (h.1, jup h.2.1 i kz z, h.2.2) rc rs) : jW G M d Q pc L (jI z :: jR (some i) :: S) h rc rs := by
  intro p l e R s m args below meth c A Qc XC mc ms free n0 ad0 ad ls H locs cells slots hB hF hW hL hS hc hs
  obtain ⟨rfl, hc1, hk1, ht1, hw1⟩ := hf
  have he := jzC_at (G := G) (ad := ad) hi
  rw [jzE_obj hc1] at he
  have hft := jz_fitI ht1 hz hb
  refine va_put hB.1 hB.2.1 hB.2.2.2.2.1 (jz_in ci hc1) (jzT ci) (jz_ty ci hc1) (jz_nm ci hc1) hB.2.2.2.1 hB.2.2.2.2.2.2.2.2.2.2.2.1 hW.1 hW.2.1 hW.2.2.1 i he (jz_cl ci hc1) k0 hk1 (hB.2.2.2.2.1 _ hw1) (fun _ q => q) hfin (jz_ty ci hc1 k0 hk1) hft.1 hft.2 (jz_len hk1) hd (fun H1 locs1 hP1 hD1 hS1 => ?_)
  exact (k p l e R s m args below meth c A Qc XC mc ms free n0 ad0 ad ls H1 locs1 cells slots hB hF (jzW_I hW hi hz (jzE_setI hc1 ht1) hP1 hD1 hS1) hL (List.forall_mem_cons.mp (List.forall_mem_cons.mp hS).2).2 hc hs)
theorem j_putR {i idx ci len k0 : Nat} {kz : Int} {r : Option Nat} (hd : decode M.2.1 pc = .ok (.putfield idx, 3)) (hf : jFR M.1.cls idx ci k0 kz) (hfin : (jzTb ci k0).2.2.2 = false) (hi : h.1[i]? = some (ci, len)) (k : jW G M d Q (pc + 3) L S (h.1, h.2.1, jup h.2.2 i kz r) rc rs) : jW G M d Q pc L (jR r :: jR (some i) :: S) h rc rs := by
  intro p l e R s m args below meth c A Qc XC mc ms free n0 ad0 ad ls H locs cells slots hB hF hW hL hS hc hs
  obtain ⟨rfl, hc1, hk1, ht1, hw1⟩ := hf
  have he := jzC_at (G := G) (ad := ad) hi
  rw [jzE_obj hc1] at he
  have hr1 := (List.forall_mem_cons.mp hS).1
  have hr : ∀ a, r = some a → a < h.1.length := fun a q => by rw [q] at hr1; exact hr1
  have hft : narrow (jzT ci k0) (jzv G ad (jR r)) = jzv G ad (jR r) ∧ fits (jzT ci k0) (jzv G ad (jR r)) = true := by
    cases ht : jzT ci k0 <;> first | (rw [ht] at ht1; cases ht1; done) | (cases r <;> exact ⟨rfl, rfl⟩)
  refine va_put hB.1 hB.2.1 hB.2.2.2.2.1 (jz_in ci hc1) (jzT ci) (jz_ty ci hc1) (jz_nm ci hc1) hB.2.2.2.1 hB.2.2.2.2.2.2.2.2.2.2.2.1 hW.1 hW.2.1 hW.2.2.1 i he (jz_cl ci hc1) k0 hk1 (hB.2.2.2.2.1 _ hw1) (fun _ q => q) hfin (jz_ty ci hc1 k0 hk1) hft.1 hft.2 (jz_len hk1) hd (fun H1 locs1 hP1 hD1 hS1 => ?_)
  exact (k p l e R s m args below meth c A Qc XC mc ms free n0 ad0 ad ls H1 locs1 cells slots hB hF (jzW_R hW hi hr (jzE_setR hc1 ht1) hP1 hD1 hS1) hL (List.forall_mem_cons.mp (List.forall_mem_cons.mp hS).2).2 hc hs)
theorem j_putFI {i idx ci len k0 : Nat} {kz z : Int} (hd : decode M.2.1 pc = .ok (.putfield idx, 3)) (hf : jFI M.1.cls idx ci k0 kz) (hfin : (jzTb ci k0).2.2.2 = true) (hin : M.1.name = "<init>") (hdc : (jzTb ci k0).1 = M.1.cls) (hi : h.1[i]? = some (ci, len)) (hz : jin z) (hb : jzT ci k0 = .boolean → z = 0 ∨ z = 1) (k : jW G M d Q (pc + 3) L S (h.1, jup h.2.1 i kz z, h.2.2) rc rs) : jW G M d Q pc L (jI z :: jR (some i) :: S) h rc rs := by
  intro p l e R s m args below meth c A Qc XC mc ms free n0 ad0 ad ls H locs cells slots hB hF hW hL hS hc hs
  obtain ⟨rfl, hc1, hk1, ht1, hw1⟩ := hf
  have he := jzC_at (G := G) (ad := ad) hi
  rw [jzE_obj hc1] at he
  have hft := jz_fitI ht1 hz hb
  refine va_putF hB.1 hB.2.1 hB.2.2.2.2.1 (jz_in ci hc1) (jzT ci) (jz_ty ci hc1) (jz_nm ci hc1) hB.2.2.2.1 hB.2.2.2.2.2.2.2.2.2.2.2.1 hW.1 hW.2.1 hW.2.2.1 i he (jz_cl ci hc1) k0 hk1 (hB.2.2.2.2.1 _ hw1) (fun _ q => q) hfin (hB.2.2.2.2.2.2.2.1.trans hin) hdc (jz_ty ci hc1 k0 hk1) hft.1 hft.2 (jz_len hk1) hd (fun H1 locs1 hP1 hD1 hS1 => ?_)
  exact (k p l e R s m args below meth c A Qc XC mc ms free n0 ad0 ad ls H1 locs1 cells slots hB hF (jzW_I hW hi hz (jzE_setI hc1 ht1) hP1 hD1 hS1) hL (List.forall_mem_cons.mp (List.forall_mem_cons.mp hS).2).2 hc hs)
theorem j_putFR {i idx ci len k0 : Nat} {kz : Int} {r : Option Nat} (hd : decode M.2.1 pc = .ok (.putfield idx, 3)) (hf : jFR M.1.cls idx ci k0 kz) (hfin : (jzTb ci k0).2.2.2 = true) (hin : M.1.name = "<init>") (hdc : (jzTb ci k0).1 = M.1.cls) (hi : h.1[i]? = some (ci, len)) (k : jW G M d Q (pc + 3) L S (h.1, h.2.1, jup h.2.2 i kz r) rc rs) : jW G M d Q pc L (jR r :: jR (some i) :: S) h rc rs := by
  intro p l e R s m args below meth c A Qc XC mc ms free n0 ad0 ad ls H locs cells slots hB hF hW hL hS hc hs
  obtain ⟨rfl, hc1, hk1, ht1, hw1⟩ := hf
  have he := jzC_at (G := G) (ad := ad) hi
  rw [jzE_obj hc1] at he
  have hr1 := (List.forall_mem_cons.mp hS).1
  have hr : ∀ a, r = some a → a < h.1.length := fun a q => by rw [q] at hr1; exact hr1
  have hft : narrow (jzT ci k0) (jzv G ad (jR r)) = jzv G ad (jR r) ∧ fits (jzT ci k0) (jzv G ad (jR r)) = true := by
    cases ht : jzT ci k0 <;> first | (rw [ht] at ht1; cases ht1; done) | (cases r <;> exact ⟨rfl, rfl⟩)
  refine va_putF hB.1 hB.2.1 hB.2.2.2.2.1 (jz_in ci hc1) (jzT ci) (jz_ty ci hc1) (jz_nm ci hc1) hB.2.2.2.1 hB.2.2.2.2.2.2.2.2.2.2.2.1 hW.1 hW.2.1 hW.2.2.1 i he (jz_cl ci hc1) k0 hk1 (hB.2.2.2.2.1 _ hw1) (fun _ q => q) hfin (hB.2.2.2.2.2.2.2.1.trans hin) hdc (jz_ty ci hc1 k0 hk1) hft.1 hft.2 (jz_len hk1) hd (fun H1 locs1 hP1 hD1 hS1 => ?_)
  exact (k p l e R s m args below meth c A Qc XC mc ms free n0 ad0 ad ls H1 locs1 cells slots hB hF (jzW_R hW hi hr (jzE_setR hc1 ht1) hP1 hD1 hS1) hL (List.forall_mem_cons.mp (List.forall_mem_cons.mp hS).2).2 hc hs)
theorem jz_ln {i : Nat} {sh : Nat × Nat} (ho : jzok h) (hi : h.1[i]? = some sh) : sh.2 < 2 ^ 31 := ho.2.2 sh (List.mem_of_getElem? hi)
theorem j_iaload {i len : Nat} {z : Int} (hd : decode M.2.1 pc = .ok (.iaload, 1)) (hi : h.1[i]? = some (11, len)) (h0 : 0 ≤ z) (h1 : z < len) (k : jin (h.2.1 i z) → jW G M d Q (pc + 1) L (jI (h.2.1 i z) :: S) h rc rs) : jW G M d Q pc L (jI z :: jR (some i) :: S) h rc rs := by
  intro p l e R s m args below meth c A Qc XC mc ms free n0 ad0 ad ls H locs cells slots hB hF hW hL hS hc hs
  have he := jzC_at (G := G) (ad := ad) hi
  rw [jzE_ia] at he
  have hx := jn_cl h0 h1 (jz_ln hW.2.2.2.1 hi)
  refine va_iald hB.1 hB.2.1 hB.2.2.2.2.2.2.2.2.2.2.2.1 hW.1 i 1 he rfl hx.1 hd ?_
  show W p l e R s m args below meth c H locs cells slots _ (F0 m (pc + 1) ls (.int (Int32.ofInt (h.2.1 i (((Int32.ofInt z).toNatClampNeg : Nat) : Int))) :: _))
  rw [hx.2]
  exact (k (hW.2.2.2.1.2.1 i z)) p l e R s m args below meth c A Qc XC mc ms free n0 ad0 ad ls H locs cells slots hB hF hW hL (List.forall_mem_cons.mpr ⟨trivial, (List.forall_mem_cons.mp (List.forall_mem_cons.mp hS).2).2⟩) hc hs
theorem j_baload {i len : Nat} {z : Int} (hd : decode M.2.1 pc = .ok (.baload, 1)) (hi : h.1[i]? = some (10, len)) (h0 : 0 ≤ z) (h1 : z < len) (k : jin (h.2.1 i z) → jW G M d Q (pc + 1) L (jI (h.2.1 i z) :: S) h rc rs) : jW G M d Q pc L (jI z :: jR (some i) :: S) h rc rs := by
  intro p l e R s m args below meth c A Qc XC mc ms free n0 ad0 ad ls H locs cells slots hB hF hW hL hS hc hs
  have he := jzC_at (G := G) (ad := ad) hi
  rw [jzE_ba] at he
  have hx := jn_cl h0 h1 (jz_ln hW.2.2.2.1 hi)
  refine va_bald hB.1 hB.2.1 hB.2.2.2.2.2.2.2.2.2.2.2.1 hW.1 i 0 he rfl hx.1 hd ?_
  show W p l e R s m args below meth c H locs cells slots _ (F0 m (pc + 1) ls (.int (Int32.ofInt (h.2.1 i (((Int32.ofInt z).toNatClampNeg : Nat) : Int))) :: _))
  rw [hx.2]
  exact (k (hW.2.2.2.1.2.1 i z)) p l e R s m args below meth c A Qc XC mc ms free n0 ad0 ad ls H locs cells slots hB hF hW hL (List.forall_mem_cons.mpr ⟨trivial, (List.forall_mem_cons.mp (List.forall_mem_cons.mp hS).2).2⟩) hc hs
theorem j_laload {i len : Nat} {z : Int} (hd : decode M.2.1 pc = .ok (.laload, 1)) (hi : h.1[i]? = some (13, len)) (h0 : 0 ≤ z) (h1 : z < len) (k : jin (h.2.1 i z) → jW G M d Q (pc + 1) L (jJ (h.2.1 i z) :: S) h rc rs) : jW G M d Q pc L (jI z :: jR (some i) :: S) h rc rs := by
  intro p l e R s m args below meth c A Qc XC mc ms free n0 ad0 ad ls H locs cells slots hB hF hW hL hS hc hs
  have he := jzC_at (G := G) (ad := ad) hi
  rw [jzE_la] at he
  have hx := jn_cl h0 h1 (jz_ln hW.2.2.2.1 hi)
  refine va_lald hB.1 hB.2.1 hB.2.2.2.2.2.2.2.2.2.2.2.1 hW.1 i 3 he rfl hx.1 hd ?_
  show W p l e R s m args below meth c H locs cells slots _ (F0 m (pc + 1) ls (.long (Int64.ofInt (h.2.1 i (((Int32.ofInt z).toNatClampNeg : Nat) : Int))) :: _))
  rw [hx.2]
  exact (k (hW.2.2.2.1.2.1 i z)) p l e R s m args below meth c A Qc XC mc ms free n0 ad0 ad ls H locs cells slots hB hF hW hL (List.forall_mem_cons.mpr ⟨trivial, (List.forall_mem_cons.mp (List.forall_mem_cons.mp hS).2).2⟩) hc hs
theorem j_aaload {i len : Nat} {z : Int} (hd : decode M.2.1 pc = .ok (.aaload, 1)) (hi : h.1[i]? = some (12, len)) (h0 : 0 ≤ z) (h1 : z < len) (k : jW G M d Q (pc + 1) L (jR (h.2.2 i z) :: S) h rc rs) : jW G M d Q pc L (jI z :: jR (some i) :: S) h rc rs := by
  intro p l e R s m args below meth c A Qc XC mc ms free n0 ad0 ad ls H locs cells slots hB hF hW hL hS hc hs
  have he := jzC_at (G := G) (ad := ad) hi
  rw [jzE_ra] at he
  have hx := jn_cl h0 h1 (jz_ln hW.2.2.2.1 hi)
  refine va_aldq hB.1 hB.2.1 hB.2.2.2.2.2.2.2.2.2.2.2.1 hW.1 i 2 he rfl hx.1 hd ?_
  show W p l e R s m args below meth c H locs cells slots _ (F0 m (pc + 1) ls (va_rf ((h.2.2 i (((Int32.ofInt z).toNatClampNeg : Nat) : Int)).map ad) :: _))
  rw [hx.2]
  have kk := (k p l e R s m args below meth c A Qc XC mc ms free n0 ad0 ad ls H locs cells slots hB hF hW hL (List.forall_mem_cons.mpr ⟨(show jok h.1.length (jR (h.2.2 i z)) from by
    cases hr : h.2.2 i z with
    | none => exact trivial
    | some a => exact hW.2.2.2.1.1 i _ a hr), (List.forall_mem_cons.mp (List.forall_mem_cons.mp hS).2).2⟩) hc hs)
  have e : jzv G ad (jR (h.2.2 i z)) = va_rf ((h.2.2 i z).map ad) := by cases h.2.2 i z <;> rfl
  rw [← e]
  exact kk
theorem jz_upd {z : Int} {n i : Nat} {v : Int} {f : Nat → Int32} (h0 : 0 ≤ z) (h1 : z < n) (hn : n < 2 ^ 31) (hf : f = fun (j : Nat) => Int32.ofInt (h.2.1 i (j : Int))) : (fun j : Nat => Int32.ofInt (jup h.2.1 i z v i (j : Int))) = upd f (Int32.ofInt z).toNatClampNeg (Int32.ofInt v) := by
  have hx := (jn_cl h0 h1 hn).2
  funext j
  by_cases e : (j : Int) = z
  · rw [e, jup_same, show j = (Int32.ofInt z).toNatClampNeg by omega, pk_us]
  · rw [jup_row _ _ _ e, pk_un (by intro q; rw [q, hx] at e; exact e rfl), hf]
theorem j_iastore {i len : Nat} {z v : Int} (hd : decode M.2.1 pc = .ok (.iastore, 1)) (hi : h.1[i]? = some (11, len)) (h0 : 0 ≤ z) (h1 : z < len) (hv : jin v) (k : jW G M d Q (pc + 1) L S (h.1, jup h.2.1 i z v, h.2.2) rc rs) : jW G M d Q pc L (jI v :: jI z :: jR (some i) :: S) h rc rs := by
  intro p l e R s m args below meth c A Qc XC mc ms free n0 ad0 ad ls H locs cells slots hB hF hW hL hS hc hs
  have he := jzC_at (G := G) (ad := ad) hi
  rw [jzE_ia] at he
  have hn := jz_ln hW.2.2.2.1 hi
  have hx := jn_cl h0 h1 hn
  refine va_iast hB.1 hB.2.1 hB.2.2.2.2.2.2.2.2.2.2.2.1 hW.1 hW.2.1 hW.2.2.1 i 1 he rfl hx.1 hd (fun H1 locs1 hP1 hD1 hS1 => ?_)
  exact (k p l e R s m args below meth c A Qc XC mc ms free n0 ad0 ad ls H1 locs1 cells slots hB hF (jzW_I hW hi hv (by rw [jzE_ia]; exact congrArg (fun x => Sum.inl (G.2.1 1, len, Sum.inl x)) (jz_upd h0 h1 hn rfl)) hP1 hD1 hS1) hL (List.forall_mem_cons.mp (List.forall_mem_cons.mp (List.forall_mem_cons.mp hS).2).2).2 hc hs)
theorem j_bastore {i len : Nat} {z v : Int} (hd : decode M.2.1 pc = .ok (.bastore, 1)) (hi : h.1[i]? = some (10, len)) (h0 : 0 ≤ z) (h1 : z < len) (k : jW G M d Q (pc + 1) L S (h.1, jup h.2.1 i z (jB8 v), h.2.2) rc rs) : jW G M d Q pc L (jI v :: jI z :: jR (some i) :: S) h rc rs := by
  intro p l e R s m args below meth c A Qc XC mc ms free n0 ad0 ad ls H locs cells slots hB hF hW hL hS hc hs
  have he := jzC_at (G := G) (ad := ad) hi
  rw [jzE_ba] at he
  have hn := jz_ln hW.2.2.2.1 hi
  have hx := jn_cl h0 h1 hn
  refine va_bast hB.1 hB.2.1 hB.2.2.2.2.2.2.2.2.2.2.2.1 hW.1 hW.2.1 hW.2.2.1 i 0 he rfl hx.1 hd (fun H1 locs1 hP1 hD1 hS1 => ?_)
  have e8 : vp_nar .byte (Int32.ofInt v) = Int32.ofInt (jB8 v) := by rw [vp_nar_byte, jB8, jn_of]
  rw [e8] at hP1 hD1
  exact (k p l e R s m args below meth c A Qc XC mc ms free n0 ad0 ad ls H1 locs1 cells slots hB hF (jzW_I hW hi (jn_rng _) (by rw [jzE_ba]; exact congrArg (fun x => Sum.inl (G.2.1 0, len, Sum.inl x)) (jz_upd h0 h1 hn rfl)) hP1 hD1 hS1) hL (List.forall_mem_cons.mp (List.forall_mem_cons.mp (List.forall_mem_cons.mp hS).2).2).2 hc hs)
theorem j_lastore {i len : Nat} {z v : Int} (hd : decode M.2.1 pc = .ok (.lastore, 1)) (hi : h.1[i]? = some (13, len)) (h0 : 0 ≤ z) (h1 : z < len) (hv : jin v) (k : jW G M d Q (pc + 1) L S (h.1, jup h.2.1 i z v, h.2.2) rc rs) : jW G M d Q pc L (jJ v :: jI z :: jR (some i) :: S) h rc rs := by
  intro p l e R s m args below meth c A Qc XC mc ms free n0 ad0 ad ls H locs cells slots hB hF hW hL hS hc hs
  have he := jzC_at (G := G) (ad := ad) hi
  rw [jzE_la] at he
  have hn := jz_ln hW.2.2.2.1 hi
  have hx := jn_cl h0 h1 hn
  refine va_last hB.1 hB.2.1 hB.2.2.2.2.2.2.2.2.2.2.2.1 hW.1 hW.2.1 hW.2.2.1 i 3 he rfl hx.1 hd (fun H1 locs1 hP1 hD1 hS1 => ?_)
  have ef : (fun (j : Nat) => Int64.ofInt (jup h.2.1 i z v i (j : Int))) = vp_updL (fun j => Int64.ofInt (h.2.1 i (j : Int))) (Int32.ofInt z).toNatClampNeg (Int64.ofInt v) := by
    funext j
    by_cases e : (j : Int) = z
    · rw [e, jup_same, show j = (Int32.ofInt z).toNatClampNeg by omega, pk_uLs]
    · rw [jup_row _ _ _ e, pk_uLn (by intro q; rw [q, hx.2] at e; exact e rfl)]
  exact (k p l e R s m args below meth c A Qc XC mc ms free n0 ad0 ad ls H1 locs1 cells slots hB hF (jzW_I hW hi hv (by rw [jzE_la]; exact congrArg (fun x => Sum.inl (G.2.1 3, len, Sum.inr (Sum.inl x))) ef) hP1 hD1 hS1) hL (List.forall_mem_cons.mp (List.forall_mem_cons.mp (List.forall_mem_cons.mp hS).2).2).2 hc hs)
theorem j_aastore {i len a la : Nat} {z : Int} (hd : decode M.2.1 pc = .ok (.aastore, 1)) (hi : h.1[i]? = some (12, len)) (ha : h.1[a]? = some (6, la)) (h0 : 0 ≤ z) (h1 : z < len) (k : jW G M d Q (pc + 1) L S (h.1, h.2.1, jup h.2.2 i z (some a)) rc rs) : jW G M d Q pc L (jR (some a) :: jI z :: jR (some i) :: S) h rc rs := by
  intro p l e R s m args below meth c A Qc XC mc ms free n0 ad0 ad ls H locs cells slots hB hF hW hL hS hc hs
  have he := jzC_at (G := G) (ad := ad) hi
  rw [jzE_ra] at he
  have hea := jzC_at (G := G) (ad := ad) ha
  rw [jzE_obj (by decide)] at hea
  have hn := jz_ln hW.2.2.2.1 hi
  have hx := jn_cl h0 h1 hn
  refine va_astq hB.1 hB.2.1 hB.2.2.2.2.2.2.2.2.2.2.2.1 hW.1 hW.2.1 hW.2.2.1 i 2 a 6 he (r := (RX9, TX9, 20)) rfl hea rfl hx.1 hd (fun H1 locs1 hP1 hD1 hS1 => ?_)
  have ef : (fun (j : Nat) => (jup h.2.2 i z (some a) i (j : Int)).map ad) = va_up (fun j => (h.2.2 i (j : Int)).map ad) (Int32.ofInt z).toNatClampNeg (some (ad a)) := by
    funext j
    by_cases e : (j : Int) = z
    · rw [e, jup_same, show j = (Int32.ofInt z).toNatClampNeg by omega, va_up_self]; rfl
    · rw [jup_row _ _ _ e, va_up_ne _ _ (by intro q; rw [q, hx.2] at e; exact e rfl)]
  have ha1 : a < h.1.length := (List.forall_mem_cons.mp hS).1
  exact (k p l e R s m args below meth c A Qc XC mc ms free n0 ad0 ad ls H1 locs1 cells slots hB hF (jzW_R hW hi (fun b q => (Option.some.inj q) ▸ ha1) (by rw [jzE_ra]; exact congrArg (fun x => Sum.inl (G.2.1 2, len, Sum.inr (Sum.inr (Sum.inr (Sum.inr x))))) ef) hP1 hD1 hS1) hL (List.forall_mem_cons.mp (List.forall_mem_cons.mp (List.forall_mem_cons.mp hS).2).2).2 hc hs)
theorem j_alen {i len : Nat} (hd : decode M.2.1 pc = .ok (.arraylength, 1)) (hi : h.1[i]? = some (11, len)) (k : jW G M d Q (pc + 1) L (jI (len : Int) :: S) h rc rs) : jW G M d Q pc L (jR (some i) :: S) h rc rs := by
  intro p l e R s m args below meth c A Qc XC mc ms free n0 ad0 ad ls H locs cells slots hB hF hW hL hS hc hs
  have he := jzC_at (G := G) (ad := ad) hi
  rw [jzE_ia] at he
  exact va_alen hB.1 hB.2.1 hB.2.2.2.2.2.2.2.2.2.2.2.1 hW.1 i 1 he rfl (Int32.ofInt_eq_ofNat (n := len)).symm hd (k p l e R s m args below meth c A Qc XC mc ms free n0 ad0 ad ls H locs cells slots hB hF hW hL (List.forall_mem_cons.mpr ⟨trivial, (List.forall_mem_cons.mp hS).2⟩) hc hs)
/-- the script -/
theorem j_slen (hd : decode M.2.1 pc = .ok (.arraylength, 1)) (k : jW G M d Q (pc + 1) L (jI (G.2.2.2.1 : Int) :: S) h rc rs) : jW G M d Q pc L (jX 0 :: S) h rc rs := by
  intro p l e R s m args below meth c A Qc XC mc ms free n0 ad0 ad ls H locs cells slots hB hF hW hL hS hc hs
  have hx := (jB_ex hB).2.2.2.2.2.2.2.2
  refine va_slen hB.1 hB.2.1 hx.1 hx.2.2 hx.2.1 hW.2.2.1 hd ?_
  rw [← Int32.ofInt_eq_ofNat (n := G.2.2.2.1)]
  exact (k p l e R s m args below meth c A Qc XC mc ms free n0 ad0 ad ls H locs cells slots hB hF hW hL (List.forall_mem_cons.mpr ⟨trivial, (List.forall_mem_cons.mp hS).2⟩) hc hs)
theorem j_sld {z : Int} (hd : decode M.2.1 pc = .ok (.iaload, 1)) (h0 : 0 ≤ z) (h1 : z < G.2.2.2.1) (hn : G.2.2.2.1 < 2 ^ 31) (k : jW G M d Q (pc + 1) L (jI (G.2.2.2.2 z.toNat).toInt :: S) h rc rs) : jW G M d Q pc L (jI z :: jX 0 :: S) h rc rs := by
  intro p l e R s m args below meth c A Qc XC mc ms free n0 ad0 ad ls H locs cells slots hB hF hW hL hS hc hs
  have hx := (jB_ex hB).2.2.2.2.2.2.2.2
  have hy := jn_cl h0 h1 hn
  refine va_sld hB.1 hB.2.1 hx.1 hx.2.2 hx.2.1 hW.2.2.1 hy.1 hd ?_
  rw [show (Int32.ofInt z).toNatClampNeg = z.toNat by omega, ← jn_of (G.2.2.2.2 z.toNat)]
  exact (k p l e R s m args below meth c A Qc XC mc ms free n0 ad0 ad ls H locs cells slots hB hF hW hL (List.forall_mem_cons.mpr ⟨trivial, (List.forall_mem_cons.mp (List.forall_mem_cons.mp hS).2).2⟩) hc hs)
theorem j_getS {i idx ci len k0 a : Nat} {kz : Int} (hd : decode M.2.1 pc = .ok (.getfield idx, 3)) (hf : jFR M.1.cls idx ci k0 kz) (hi : h.1[i]? = some (ci, len)) (hr : h.2.2 i kz = some a) (k : jW G M d Q (pc + 3) L (jR (some a) :: S) h rc rs) : jW G M d Q pc L (jR (some i) :: S) h rc rs := j_getR hd hf hi (by rw [hr]; exact k)
end Rows2
