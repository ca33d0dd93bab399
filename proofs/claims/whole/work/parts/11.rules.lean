/-! THE ROWS OF THE SMALL MACHINE -/
/-! ### whole numbers -/
theorem jn_add (a b : Int) : Int32.ofInt a + Int32.ofInt b = Int32.ofInt (a + b) := (Int32.ofInt_add a b).symm
theorem jn_sub (a b : Int) : Int32.ofInt a - Int32.ofInt b = Int32.ofInt (a - b) := (Int32.ofInt_sub a b).symm
theorem jn_mul (a b : Int) : Int32.ofInt a * Int32.ofInt b = Int32.ofInt (a * b) := (Int32.ofInt_mul a b).symm
theorem jn_neg (a : Int) : -Int32.ofInt a = Int32.ofInt (-a) := (Int32.ofInt_neg a).symm
theorem jn_toInt {a : Int} (h : jin a) : (Int32.ofInt a).toInt = a := by
  rw [Int32.toInt_ofInt]
  exact fb_bmod h.1 h.2
theorem jn_of (x : Int32) : Int32.ofInt x.toInt = x := Int32.ofInt_toInt x
theorem jn_lt {a b : Int} (ha : jin a) (hb : jin b) : Int32.ofInt a < Int32.ofInt b ↔ a < b := by
  rw [fa_lt, jn_toInt ha, jn_toInt hb]
theorem jn_le {a b : Int} (ha : jin a) (hb : jin b) : Int32.ofInt a ≤ Int32.ofInt b ↔ a ≤ b := by
  rw [fa_le, jn_toInt ha, jn_toInt hb]
theorem jn_eq {a b : Int} (ha : jin a) (hb : jin b) : Int32.ofInt a = Int32.ofInt b ↔ a = b := by
  rw [fa_eq, jn_toInt ha, jn_toInt hb]
theorem jn_rng (x : Int32) : jin x.toInt := fb_rng x
def jwr (z : Int) : Int := (Int32.ofInt z).toInt
theorem jwr_in (z : Int) : jin (jwr z) := jn_rng _
theorem jwr_eq {z : Int} (h : jin z) : jwr z = z := jn_toInt h
def jAnd (a b : Int) : Int := (Int32.ofInt a &&& Int32.ofInt b).toInt
def jOr (a b : Int) : Int := (Int32.ofInt a ||| Int32.ofInt b).toInt
def jXor (a b : Int) : Int := (Int32.ofInt a ^^^ Int32.ofInt b).toInt
def jShl (a b : Int) : Int := (Int32.ofInt a <<< (Int32.ofInt b &&& 31)).toInt
def jShr (a b : Int) : Int := (Int32.ofInt a >>> (Int32.ofInt b &&& 31)).toInt
def jUshr (a b : Int) : Int := ((Int32.ofInt a).toUInt32 >>> ((Int32.ofInt b).toUInt32 &&& Int32.toUInt32 31)).toInt32.toInt
def jDiv (a b : Int) : Int := (Int32.ofInt a / Int32.ofInt b).toInt
def jRem (a b : Int) : Int := (Int32.ofInt a - Int32.ofInt a / Int32.ofInt b * Int32.ofInt b).toInt
def jB8 (a : Int) : Int := (Int32.ofInt a).toInt8.toInt32.toInt
theorem jn_i2l (a : Int) : (Int32.ofInt a).toInt64 = Int64.ofInt (jwr a) := by
  rw [← Int64.ofInt_toInt (Int32.ofInt a).toInt64, Int32.toInt_toInt64]; rfl
theorem jn_lc : ∀ n : Fin 2, Int64.ofNat (n : Nat) = Int64.ofInt ((n.val : Nat) : Int) := by decide
section Rows
variable {G : jzG} {M : jzM} {d pc rc rs : Nat} {Q : jzO → jzH → Prop} {L : List (Option jzV)} {S : List jzV} {h : jzH}
theorem j_iconst {n : Int} (hd : decode M.2.1 pc = .ok (.iconst n, 1)) (k : jW G M d Q (pc + 1) L (jI n :: S) h rc rs) : jW G M d Q pc L S h rc rs := by
  intro p l e R s m args below meth c A Qc XC mc ms free n0 ad0 ad ls H locs cells slots hB hF hW hL hS hc hs
  exact lv_iconst hB.1 hB.2.1 hd rfl (k p l e R s m args below meth c A Qc XC mc ms free n0 ad0 ad ls H locs cells slots hB hF hW hL (List.forall_mem_cons.mpr ⟨trivial, hS⟩) hc hs)
theorem j_bipush {n : Int} (hd : decode M.2.1 pc = .ok (.bipush n, 2)) (hv : (Int8.ofInt n).toInt32 = Int32.ofInt n) (k : jW G M d Q (pc + 2) L (jI n :: S) h rc rs) : jW G M d Q pc L S h rc rs := by
  intro p l e R s m args below meth c A Qc XC mc ms free n0 ad0 ad ls H locs cells slots hB hF hW hL hS hc hs
  exact lv_bipush hB.1 hB.2.1 hd hv (k p l e R s m args below meth c A Qc XC mc ms free n0 ad0 ad ls H locs cells slots hB hF hW hL (List.forall_mem_cons.mpr ⟨trivial, hS⟩) hc hs)
theorem j_sipush {n : Int} (hd : decode M.2.1 pc = .ok (.sipush n, 3)) (hv : (Int16.ofInt n).toInt32 = Int32.ofInt n) (k : jW G M d Q (pc + 3) L (jI n :: S) h rc rs) : jW G M d Q pc L S h rc rs := by
  intro p l e R s m args below meth c A Qc XC mc ms free n0 ad0 ad ls H locs cells slots hB hF hW hL hS hc hs
  exact lv_sipush hB.1 hB.2.1 hd hv (k p l e R s m args below meth c A Qc XC mc ms free n0 ad0 ad ls H locs cells slots hB hF hW hL (List.forall_mem_cons.mpr ⟨trivial, hS⟩) hc hs)
theorem j_ldc {n : Int} {idx : Nat} (hd : decode M.2.1 pc = .ok (.ldc idx, 2)) (hw : Cond.constant M.1.cls idx (Int32.ofInt n) ∈ lw_good) (k : jW G M d Q (pc + 2) L (jI n :: S) h rc rs) : jW G M d Q pc L S h rc rs := by
  intro p l e R s m args below meth c A Qc XC mc ms free n0 ad0 ad ls H locs cells slots hB hF hW hL hS hc hs
  exact lv_ldc hB.1 hB.2.1 hB.2.2.2.1 (hB.2.2.2.2.1 _ hw) hd (k p l e R s m args below meth c A Qc XC mc ms free n0 ad0 ad ls H locs cells slots hB hF hW hL (List.forall_mem_cons.mpr ⟨trivial, hS⟩) hc hs)
theorem j_ldcw {n : Int} {idx : Nat} (hd : decode M.2.1 pc = .ok (.ldc_w idx, 3)) (hw : Cond.constant M.1.cls idx (Int32.ofInt n) ∈ lw_good) (k : jW G M d Q (pc + 3) L (jI n :: S) h rc rs) : jW G M d Q pc L S h rc rs := by
  intro p l e R s m args below meth c A Qc XC mc ms free n0 ad0 ad ls H locs cells slots hB hF hW hL hS hc hs
  exact lv_ldcw hB.1 hB.2.1 hB.2.2.2.1 (hB.2.2.2.2.1 _ hw) hd (k p l e R s m args below meth c A Qc XC mc ms free n0 ad0 ad ls H locs cells slots hB hF hW hL (List.forall_mem_cons.mpr ⟨trivial, hS⟩) hc hs)
theorem j_ldcS {idx t : Nat} (hd : decode M.2.1 pc = .ok (.ldc idx, 2)) (hw : (M.1.cls, idx, t) ∈ jzSt) (k : jW G M d Q (pc + 2) L (jX (t + 1) :: S) h rc rs) : jW G M d Q pc L S h rc rs := by
  intro p l e R s m args below meth c A Qc XC mc ms free n0 ad0 ad ls H locs cells slots hB hF hW hL hS hc hs
  exact va_ldcS hB.1 hB.2.1 hB.2.2.2.1 (hB.2.2.2.2.2.2.2.2.2.2.1.2.2.2.2.1 _ hw) hd (k p l e R s m args below meth c A Qc XC mc ms free n0 ad0 ad ls H locs cells slots hB hF hW hL (List.forall_mem_cons.mpr ⟨trivial, hS⟩) hc hs)
theorem j_null (hd : decode M.2.1 pc = .ok (.aconst_null, 1)) (k : jW G M d Q (pc + 1) L (jR none :: S) h rc rs) : jW G M d Q pc L S h rc rs := by
  intro p l e R s m args below meth c A Qc XC mc ms free n0 ad0 ad ls H locs cells slots hB hF hW hL hS hc hs
  exact lv_null hB.1 hB.2.1 hd (k p l e R s m args below meth c A Qc XC mc ms free n0 ad0 ad ls H locs cells slots hB hF hW hL (List.forall_mem_cons.mpr ⟨trivial, hS⟩) hc hs)
theorem j_iload {i : Nat} {z : Int} (hd : decode M.2.1 pc = .ok (.iload i, 2)) (hl : L[i]? = some (some (jI z))) (k : jW G M d Q (pc + 2) L (jI z :: S) h rc rs) : jW G M d Q pc L S h rc rs := by
  intro p l e R s m args below meth c A Qc XC mc ms free n0 ad0 ad ls H locs cells slots hB hF hW hL hS hc hs
  exact lv_iload hB.1 hB.2.1 hd (hL.2.2 i _ hl).1 (k p l e R s m args below meth c A Qc XC mc ms free n0 ad0 ad ls H locs cells slots hB hF hW hL (List.forall_mem_cons.mpr ⟨trivial, hS⟩) hc hs)
theorem j_iload_n {i : Fin 4} {z : Int} (hd : decode M.2.1 pc = .ok (.iload_n i, 1)) (hl : L[i.val]? = some (some (jI z))) (k : jW G M d Q (pc + 1) L (jI z :: S) h rc rs) : jW G M d Q pc L S h rc rs := by
  intro p l e R s m args below meth c A Qc XC mc ms free n0 ad0 ad ls H locs cells slots hB hF hW hL hS hc hs
  exact lv_iload_n hB.1 hB.2.1 hd rfl (hL.2.2 i _ hl).1 (k p l e R s m args below meth c A Qc XC mc ms free n0 ad0 ad ls H locs cells slots hB hF hW hL (List.forall_mem_cons.mpr ⟨trivial, hS⟩) hc hs)
theorem j_aload {i : Nat} {v : Option Nat ⊕ Nat} (hd : decode M.2.1 pc = .ok (.aload i, 2)) (hl : L[i]? = some (some (.inr (.inr v)))) (k : jW G M d Q (pc + 2) L (.inr (.inr v) :: S) h rc rs) : jW G M d Q pc L S h rc rs := by
  intro p l e R s m args below meth c A Qc XC mc ms free n0 ad0 ad ls H locs cells slots hB hF hW hL hS hc hs
  have hv := hL.2.2 i _ hl
  have kk := (k p l e R s m args below meth c A Qc XC mc ms free n0 ad0 ad ls H locs cells slots hB hF hW hL (List.forall_mem_cons.mpr ⟨hv.2.1, hS⟩) hc hs)
  match v, hv, kk with
  | .inl none, hv, kk => exact lv_aloadN hB.1 hB.2.1 hd hv.1 kk
  | .inl (some a), hv, kk => exact lv_aload hB.1 hB.2.1 hd hv.1 kk
  | .inr a, hv, kk => exact lv_aload hB.1 hB.2.1 hd hv.1 kk
theorem j_aload_n {i : Fin 4} {v : Option Nat ⊕ Nat} (hd : decode M.2.1 pc = .ok (.aload_n i, 1)) (hl : L[i.val]? = some (some (.inr (.inr v)))) (k : jW G M d Q (pc + 1) L (.inr (.inr v) :: S) h rc rs) : jW G M d Q pc L S h rc rs := by
  intro p l e R s m args below meth c A Qc XC mc ms free n0 ad0 ad ls H locs cells slots hB hF hW hL hS hc hs
  have hv := hL.2.2 i _ hl
  have kk := (k p l e R s m args below meth c A Qc XC mc ms free n0 ad0 ad ls H locs cells slots hB hF hW hL (List.forall_mem_cons.mpr ⟨hv.2.1, hS⟩) hc hs)
  match v, hv, kk with
  | .inl none, hv, kk => exact lv_aload_nN hB.1 hB.2.1 hd rfl hv.1 kk
  | .inl (some a), hv, kk => exact lv_aload_n hB.1 hB.2.1 hd rfl hv.1 kk
  | .inr a, hv, kk => exact lv_aload_n hB.1 hB.2.1 hd rfl hv.1 kk
/-- the known locals as the kit lists them -/
def jzLl (G : jzG) (ad : Nat → Nat) (L : List (Option jzV)) : List (Nat × Value) := L.zipIdx.filterMap (fun q => q.1.map (fun v => (q.2, jzv G ad v)))
theorem jzLl_mem {ad : Nat → Nat} {q : Nat × Value} : q ∈ jzLl G ad L ↔ ∃ i v, L[i]? = some (some v) ∧ q = (i, jzv G ad v) := by
  simp only [jzLl, List.mem_filterMap]
  constructor
  · rintro ⟨⟨o, i⟩, hm, he⟩
    have := List.mem_zipIdx_iff_getElem?.mp hm
    cases o with
    | none => simp at he
    | some v => exact ⟨i, v, this, (by simpa using he.symm)⟩
  · rintro ⟨i, v, hi, rfl⟩
    exact ⟨(some v, i), List.mem_zipIdx_iff_getElem?.mpr hi, by simp⟩
theorem jzL_has {ad : Nat → Nat} {n nL : Nat} {ls : Array Slot} (hL : jzL G ad n nL L ls) : lv_has ls nL (jzLl G ad L) := ⟨hL.1, hL.2.1, fun q hq => by
  obtain ⟨i, v, hi, rfl⟩ := jzLl_mem.mp hq
  exact (hL.2.2 i v hi).1⟩
theorem jzL_put {ad : Nat → Nat} {n nL i : Nat} {ls ls' : Array Slot} {v : jzV} (hL : jzL G ad n nL L ls) (hv : jok n v) (ho : jone v)
    (h' : lv_has ls' nL ((i, jzv G ad v) :: (jzLl G ad L).filter (fun q => !(q.1 == i) && !(q.1 + 1 == i && q.2.category == 2)))) : jzL G ad n nL (L.set i (some v)) ls' := by
  refine ⟨h'.1, h'.2.1, fun j w hj => ?_⟩
  rw [List.getElem?_set] at hj
  by_cases e : i = j
  · subst e
    rw [if_pos rfl] at hj
    split at hj
    · cases hj
      exact ⟨h'.2.2 _ List.mem_cons_self, hv, ho⟩
    · cases hj
  · rw [if_neg e] at hj
    have hw := hL.2.2 j w hj
    refine ⟨h'.2.2 (j, jzv G ad w) (List.mem_cons_of_mem _ (List.mem_filter.mpr ⟨jzLl_mem.mpr ⟨j, w, hj, rfl⟩, ?_⟩)), hw.2⟩
    have hc : (jzv G ad w).category = 1 := jzv_cat hw.2.2
    simp [hc]
    exact fun q => e q.symm
theorem j_istore {i : Nat} {z : Int} (hd : decode M.2.1 pc = .ok (.istore i, 2)) (hn : i < M.2.2.1) (k : jW G M d Q (pc + 2) (L.set i (some (jI z))) S h rc rs) : jW G M d Q pc L (jI z :: S) h rc rs := by
  intro p l e R s m args below meth c A Qc XC mc ms free n0 ad0 ad ls H locs cells slots hB hF hW hL hS hc hs
  exact lv_istore hB.1 hB.2.1 hd (jzL_has hL) hn rfl (fun ls' hl' => (k p l e R s m args below meth c A Qc XC mc ms free n0 ad0 ad ls' H locs cells slots hB hF hW (jzL_put hL trivial trivial hl') (List.forall_mem_cons.mp hS).2 hc hs))
theorem j_istore_n {i : Fin 4} {z : Int} (hd : decode M.2.1 pc = .ok (.istore_n i, 1)) (hn : i.val < M.2.2.1) (k : jW G M d Q (pc + 1) (L.set i.val (some (jI z))) S h rc rs) : jW G M d Q pc L (jI z :: S) h rc rs := by
  intro p l e R s m args below meth c A Qc XC mc ms free n0 ad0 ad ls H locs cells slots hB hF hW hL hS hc hs
  exact lv_istore_n hB.1 hB.2.1 hd rfl (jzL_has hL) hn rfl (fun ls' hl' => (k p l e R s m args below meth c A Qc XC mc ms free n0 ad0 ad ls' H locs cells slots hB hF hW (jzL_put hL trivial trivial hl') (List.forall_mem_cons.mp hS).2 hc hs))
theorem j_astore {i : Nat} {a : Nat} (hd : decode M.2.1 pc = .ok (.astore i, 2)) (hn : i < M.2.2.1) (k : jW G M d Q (pc + 2) (L.set i (some (jR (some a)))) S h rc rs) : jW G M d Q pc L (jR (some a) :: S) h rc rs := by
  intro p l e R s m args below meth c A Qc XC mc ms free n0 ad0 ad ls H locs cells slots hB hF hW hL hS hc hs
  exact lv_astore hB.1 hB.2.1 hd (jzL_has hL) hn rfl (fun ls' hl' => (k p l e R s m args below meth c A Qc XC mc ms free n0 ad0 ad ls' H locs cells slots hB hF hW (jzL_put hL (List.forall_mem_cons.mp hS).1 trivial hl') (List.forall_mem_cons.mp hS).2 hc hs))
theorem j_astore_n {i : Fin 4} {a : Nat} (hd : decode M.2.1 pc = .ok (.astore_n i, 1)) (hn : i.val < M.2.2.1) (k : jW G M d Q (pc + 1) (L.set i.val (some (jR (some a)))) S h rc rs) : jW G M d Q pc L (jR (some a) :: S) h rc rs := by
  intro p l e R s m args below meth c A Qc XC mc ms free n0 ad0 ad ls H locs cells slots hB hF hW hL hS hc hs
  exact lv_astore_n hB.1 hB.2.1 hd rfl (jzL_has hL) hn rfl (fun ls' hl' => (k p l e R s m args below meth c A Qc XC mc ms free n0 ad0 ad ls' H locs cells slots hB hF hW (jzL_put hL (List.forall_mem_cons.mp hS).1 trivial hl') (List.forall_mem_cons.mp hS).2 hc hs))
theorem j_astoreN_n {i : Fin 4} (hd : decode M.2.1 pc = .ok (.astore_n i, 1)) (hn : i.val < M.2.2.1) (k : jW G M d Q (pc + 1) (L.set i.val (some (jR none))) S h rc rs) : jW G M d Q pc L (jR none :: S) h rc rs := by
  intro p l e R s m args below meth c A Qc XC mc ms free n0 ad0 ad ls H locs cells slots hB hF hW hL hS hc hs
  exact lv_astore_nN hB.1 hB.2.1 hd rfl (jzL_has hL) hn rfl (fun ls' hl' => (k p l e R s m args below meth c A Qc XC mc ms free n0 ad0 ad ls' H locs cells slots hB hF hW (jzL_put hL trivial trivial hl') (List.forall_mem_cons.mp hS).2 hc hs))
theorem j_iinc {i : Nat} {n z : Int} (hd : decode M.2.1 pc = .ok (.iinc i n, 3)) (hl : L[i]? = some (some (jI z))) (hn : i < M.2.2.1) (k : jW G M d Q (pc + 3) (L.set i (some (jI (z + n)))) S h rc rs) : jW G M d Q pc L S h rc rs := by
  intro p l e R s m args below meth c A Qc XC mc ms free n0 ad0 ad ls H locs cells slots hB hF hW hL hS hc hs
  obtain ⟨j, hj⟩ := List.getElem?_of_mem (jzLl_mem (G := G) (ad := ad).mpr ⟨i, _, hl, rfl⟩)
  exact lv_iinc hB.1 hB.2.1 hd (jzL_has hL) hj (jn_add z n) hn rfl (fun ls' hl' => (k p l e R s m args below meth c A Qc XC mc ms free n0 ad0 ad ls' H locs cells slots hB hF hW (jzL_put (v := jI (z + n)) hL trivial trivial hl') hS hc hs))
theorem j_iadd {a b : Int} (hd : decode M.2.1 pc = .ok (.iadd, 1)) (k : jW G M d Q (pc + 1) L (jI (a + b) :: S) h rc rs) : jW G M d Q pc L (jI b :: jI a :: S) h rc rs := by
  intro p l e R s m args below meth c A Qc XC mc ms free n0 ad0 ad ls H locs cells slots hB hF hW hL hS hc hs
  have kk := (k p l e R s m args below meth c A Qc XC mc ms free n0 ad0 ad ls H locs cells slots hB hF hW hL (List.forall_mem_cons.mpr ⟨trivial, (List.forall_mem_cons.mp (List.forall_mem_cons.mp hS).2).2⟩) hc hs)
  exact lv_iadd hB.1 hB.2.1 hd (by rw [jn_add]; exact kk)
theorem j_isub {a b : Int} (hd : decode M.2.1 pc = .ok (.isub, 1)) (k : jW G M d Q (pc + 1) L (jI (a - b) :: S) h rc rs) : jW G M d Q pc L (jI b :: jI a :: S) h rc rs := by
  intro p l e R s m args below meth c A Qc XC mc ms free n0 ad0 ad ls H locs cells slots hB hF hW hL hS hc hs
  have kk := (k p l e R s m args below meth c A Qc XC mc ms free n0 ad0 ad ls H locs cells slots hB hF hW hL (List.forall_mem_cons.mpr ⟨trivial, (List.forall_mem_cons.mp (List.forall_mem_cons.mp hS).2).2⟩) hc hs)
  exact lv_isub hB.1 hB.2.1 hd (by rw [jn_sub]; exact kk)
theorem j_imul {a b : Int} (hd : decode M.2.1 pc = .ok (.imul, 1)) (k : jW G M d Q (pc + 1) L (jI (a * b) :: S) h rc rs) : jW G M d Q pc L (jI b :: jI a :: S) h rc rs := by
  intro p l e R s m args below meth c A Qc XC mc ms free n0 ad0 ad ls H locs cells slots hB hF hW hL hS hc hs
  have kk := (k p l e R s m args below meth c A Qc XC mc ms free n0 ad0 ad ls H locs cells slots hB hF hW hL (List.forall_mem_cons.mpr ⟨trivial, (List.forall_mem_cons.mp (List.forall_mem_cons.mp hS).2).2⟩) hc hs)
  exact lv_imul hB.1 hB.2.1 hd (by rw [jn_mul]; exact kk)
theorem j_iand {a b : Int} (hd : decode M.2.1 pc = .ok (.iand, 1)) (k : jW G M d Q (pc + 1) L (jI (jAnd a b) :: S) h rc rs) : jW G M d Q pc L (jI b :: jI a :: S) h rc rs := by
  intro p l e R s m args below meth c A Qc XC mc ms free n0 ad0 ad ls H locs cells slots hB hF hW hL hS hc hs
  have kk := (k p l e R s m args below meth c A Qc XC mc ms free n0 ad0 ad ls H locs cells slots hB hF hW hL (List.forall_mem_cons.mpr ⟨trivial, (List.forall_mem_cons.mp (List.forall_mem_cons.mp hS).2).2⟩) hc hs)
  refine lv_iand hB.1 hB.2.1 hd ?_
  have e := jn_of (Int32.ofInt a &&& Int32.ofInt b)
  rw [← e]
  exact kk
theorem j_ior {a b : Int} (hd : decode M.2.1 pc = .ok (.ior, 1)) (k : jW G M d Q (pc + 1) L (jI (jOr a b) :: S) h rc rs) : jW G M d Q pc L (jI b :: jI a :: S) h rc rs := by
  intro p l e R s m args below meth c A Qc XC mc ms free n0 ad0 ad ls H locs cells slots hB hF hW hL hS hc hs
  have kk := (k p l e R s m args below meth c A Qc XC mc ms free n0 ad0 ad ls H locs cells slots hB hF hW hL (List.forall_mem_cons.mpr ⟨trivial, (List.forall_mem_cons.mp (List.forall_mem_cons.mp hS).2).2⟩) hc hs)
  refine lv_ior hB.1 hB.2.1 hd ?_
  have e := jn_of (Int32.ofInt a ||| Int32.ofInt b)
  rw [← e]
  exact kk
theorem j_ixor {a b : Int} (hd : decode M.2.1 pc = .ok (.ixor, 1)) (k : jW G M d Q (pc + 1) L (jI (jXor a b) :: S) h rc rs) : jW G M d Q pc L (jI b :: jI a :: S) h rc rs := by
  intro p l e R s m args below meth c A Qc XC mc ms free n0 ad0 ad ls H locs cells slots hB hF hW hL hS hc hs
  have kk := (k p l e R s m args below meth c A Qc XC mc ms free n0 ad0 ad ls H locs cells slots hB hF hW hL (List.forall_mem_cons.mpr ⟨trivial, (List.forall_mem_cons.mp (List.forall_mem_cons.mp hS).2).2⟩) hc hs)
  refine lv_ixor hB.1 hB.2.1 hd ?_
  have e := jn_of (Int32.ofInt a ^^^ Int32.ofInt b)
  rw [← e]
  exact kk
theorem j_ishl {a b : Int} (hd : decode M.2.1 pc = .ok (.ishl, 1)) (k : jW G M d Q (pc + 1) L (jI (jShl a b) :: S) h rc rs) : jW G M d Q pc L (jI b :: jI a :: S) h rc rs := by
  intro p l e R s m args below meth c A Qc XC mc ms free n0 ad0 ad ls H locs cells slots hB hF hW hL hS hc hs
  have kk := (k p l e R s m args below meth c A Qc XC mc ms free n0 ad0 ad ls H locs cells slots hB hF hW hL (List.forall_mem_cons.mpr ⟨trivial, (List.forall_mem_cons.mp (List.forall_mem_cons.mp hS).2).2⟩) hc hs)
  refine lv_ishl hB.1 hB.2.1 hd ?_
  have e := jn_of (Int32.ofInt a <<< (Int32.ofInt b &&& 31))
  rw [← e]
  exact kk
theorem j_ishr {a b : Int} (hd : decode M.2.1 pc = .ok (.ishr, 1)) (k : jW G M d Q (pc + 1) L (jI (jShr a b) :: S) h rc rs) : jW G M d Q pc L (jI b :: jI a :: S) h rc rs := by
  intro p l e R s m args below meth c A Qc XC mc ms free n0 ad0 ad ls H locs cells slots hB hF hW hL hS hc hs
  have kk := (k p l e R s m args below meth c A Qc XC mc ms free n0 ad0 ad ls H locs cells slots hB hF hW hL (List.forall_mem_cons.mpr ⟨trivial, (List.forall_mem_cons.mp (List.forall_mem_cons.mp hS).2).2⟩) hc hs)
  refine lv_ishr hB.1 hB.2.1 hd ?_
  have e := jn_of (Int32.ofInt a >>> (Int32.ofInt b &&& 31))
  rw [← e]
  exact kk
theorem j_iushr {a b : Int} (hd : decode M.2.1 pc = .ok (.iushr, 1)) (k : jW G M d Q (pc + 1) L (jI (jUshr a b) :: S) h rc rs) : jW G M d Q pc L (jI b :: jI a :: S) h rc rs := by
  intro p l e R s m args below meth c A Qc XC mc ms free n0 ad0 ad ls H locs cells slots hB hF hW hL hS hc hs
  have kk := (k p l e R s m args below meth c A Qc XC mc ms free n0 ad0 ad ls H locs cells slots hB hF hW hL (List.forall_mem_cons.mpr ⟨trivial, (List.forall_mem_cons.mp (List.forall_mem_cons.mp hS).2).2⟩) hc hs)
  exact lv_iushr hB.1 hB.2.1 hd (jn_of _).symm kk
theorem j_idiv {a b : Int} (hd : decode M.2.1 pc = .ok (.idiv, 1)) (hb : jin b) (hb0 : b ≠ 0) (k : jW G M d Q (pc + 1) L (jI (jDiv a b) :: S) h rc rs) : jW G M d Q pc L (jI b :: jI a :: S) h rc rs := by
  intro p l e R s m args below meth c A Qc XC mc ms free n0 ad0 ad ls H locs cells slots hB hF hW hL hS hc hs
  have kk := (k p l e R s m args below meth c A Qc XC mc ms free n0 ad0 ad ls H locs cells slots hB hF hW hL (List.forall_mem_cons.mpr ⟨trivial, (List.forall_mem_cons.mp (List.forall_mem_cons.mp hS).2).2⟩) hc hs)
  refine lv_idiv hB.1 hB.2.1 hd (fun q => hb0 ((jn_eq hb ⟨by decide, by decide⟩).mp q)) ?_
  rw [← jn_of (Int32.ofInt a / Int32.ofInt b)]
  exact kk
theorem j_irem {a b : Int} (hd : decode M.2.1 pc = .ok (.irem, 1)) (hb : jin b) (hb0 : b ≠ 0) (k : jW G M d Q (pc + 1) L (jI (jRem a b) :: S) h rc rs) : jW G M d Q pc L (jI b :: jI a :: S) h rc rs := by
  intro p l e R s m args below meth c A Qc XC mc ms free n0 ad0 ad ls H locs cells slots hB hF hW hL hS hc hs
  have kk := (k p l e R s m args below meth c A Qc XC mc ms free n0 ad0 ad ls H locs cells slots hB hF hW hL (List.forall_mem_cons.mpr ⟨trivial, (List.forall_mem_cons.mp (List.forall_mem_cons.mp hS).2).2⟩) hc hs)
  refine lv_irem hB.1 hB.2.1 hd (fun q => hb0 ((jn_eq hb ⟨by decide, by decide⟩).mp q)) ?_
  rw [← jn_of (Int32.ofInt a - Int32.ofInt a / Int32.ofInt b * Int32.ofInt b)]
  exact kk
theorem j_ineg {a : Int} (hd : decode M.2.1 pc = .ok (.ineg, 1)) (k : jW G M d Q (pc + 1) L (jI (-a) :: S) h rc rs) : jW G M d Q pc L (jI a :: S) h rc rs := by
  intro p l e R s m args below meth c A Qc XC mc ms free n0 ad0 ad ls H locs cells slots hB hF hW hL hS hc hs
  have kk := (k p l e R s m args below meth c A Qc XC mc ms free n0 ad0 ad ls H locs cells slots hB hF hW hL (List.forall_mem_cons.mpr ⟨trivial, (List.forall_mem_cons.mp hS).2⟩) hc hs)
  exact lv_ineg hB.1 hB.2.1 hd (by rw [jn_neg]; exact kk)
theorem j_i2b {a : Int} (hd : decode M.2.1 pc = .ok (.i2b, 1)) (k : jW G M d Q (pc + 1) L (jI (jB8 a) :: S) h rc rs) : jW G M d Q pc L (jI a :: S) h rc rs := by
  intro p l e R s m args below meth c A Qc XC mc ms free n0 ad0 ad ls H locs cells slots hB hF hW hL hS hc hs
  have kk := (k p l e R s m args below meth c A Qc XC mc ms free n0 ad0 ad ls H locs cells slots hB hF hW hL (List.forall_mem_cons.mpr ⟨trivial, (List.forall_mem_cons.mp hS).2⟩) hc hs)
  exact lv_i2b hB.1 hB.2.1 hd (jn_of _).symm kk
theorem j_icmp_eq {a b off : Int} {tgt : Nat} (hd : decode M.2.1 pc = .ok (.if_icmp .eq off, 3)) (ht : (pc : Int) + off = (tgt : Int)) (ha : jin a) (hb : jin b) (kt : a = b → jW G M d Q tgt L S h rc rs) (kf : ¬ (a = b) → jW G M d Q (pc + 3) L S h rc rs) : jW G M d Q pc L (jI b :: jI a :: S) h rc rs := by
  intro p l e R s m args below meth c A Qc XC mc ms free n0 ad0 ad ls H locs cells slots hB hF hW hL hS hc hs
  have hS2 := (List.forall_mem_cons.mp (List.forall_mem_cons.mp hS).2).2
  exact lv_icmp_eq hB.1 hB.2.1 hd ht (fun q => kt ((jn_eq ha hb).mp q) p l e R s m args below meth c A Qc XC mc ms free n0 ad0 ad ls H locs cells slots hB hF hW hL hS2 hc hs) (fun q => kf (fun z => q ((jn_eq ha hb).mpr z)) p l e R s m args below meth c A Qc XC mc ms free n0 ad0 ad ls H locs cells slots hB hF hW hL hS2 hc hs)
theorem j_if_eq {a off : Int} {tgt : Nat} (hd : decode M.2.1 pc = .ok (.ifCond .eq off, 3)) (ht : (pc : Int) + off = (tgt : Int)) (ha : jin a) (kt : a = 0 → jW G M d Q tgt L S h rc rs) (kf : ¬ (a = 0) → jW G M d Q (pc + 3) L S h rc rs) : jW G M d Q pc L (jI a :: S) h rc rs := by
  intro p l e R s m args below meth c A Qc XC mc ms free n0 ad0 ad ls H locs cells slots hB hF hW hL hS hc hs
  have hS2 := (List.forall_mem_cons.mp hS).2
  have h0 : jin 0 := ⟨by decide, by decide⟩
  exact lv_if_eq hB.1 hB.2.1 hd ht (fun q => kt ((jn_eq ha h0).mp q) p l e R s m args below meth c A Qc XC mc ms free n0 ad0 ad ls H locs cells slots hB hF hW hL hS2 hc hs) (fun q => kf (fun z => q ((jn_eq ha h0).mpr z)) p l e R s m args below meth c A Qc XC mc ms free n0 ad0 ad ls H locs cells slots hB hF hW hL hS2 hc hs)
theorem j_icmp_ne {a b off : Int} {tgt : Nat} (hd : decode M.2.1 pc = .ok (.if_icmp .ne off, 3)) (ht : (pc : Int) + off = (tgt : Int)) (ha : jin a) (hb : jin b) (kt : a ≠ b → jW G M d Q tgt L S h rc rs) (kf : ¬ (a ≠ b) → jW G M d Q (pc + 3) L S h rc rs) : jW G M d Q pc L (jI b :: jI a :: S) h rc rs := by
  intro p l e R s m args below meth c A Qc XC mc ms free n0 ad0 ad ls H locs cells slots hB hF hW hL hS hc hs
  have hS2 := (List.forall_mem_cons.mp (List.forall_mem_cons.mp hS).2).2
  exact lv_icmp_ne hB.1 hB.2.1 hd ht (fun q => kt (fun z => q ((jn_eq ha hb).mpr z)) p l e R s m args below meth c A Qc XC mc ms free n0 ad0 ad ls H locs cells slots hB hF hW hL hS2 hc hs) (fun q => kf (fun z => z ((jn_eq ha hb).mp q)) p l e R s m args below meth c A Qc XC mc ms free n0 ad0 ad ls H locs cells slots hB hF hW hL hS2 hc hs)
theorem j_if_ne {a off : Int} {tgt : Nat} (hd : decode M.2.1 pc = .ok (.ifCond .ne off, 3)) (ht : (pc : Int) + off = (tgt : Int)) (ha : jin a) (kt : a ≠ 0 → jW G M d Q tgt L S h rc rs) (kf : ¬ (a ≠ 0) → jW G M d Q (pc + 3) L S h rc rs) : jW G M d Q pc L (jI a :: S) h rc rs := by
  intro p l e R s m args below meth c A Qc XC mc ms free n0 ad0 ad ls H locs cells slots hB hF hW hL hS hc hs
  have hS2 := (List.forall_mem_cons.mp hS).2
  have h0 : jin 0 := ⟨by decide, by decide⟩
  exact lv_if_ne hB.1 hB.2.1 hd ht (fun q => kt (fun z => q ((jn_eq ha h0).mpr z)) p l e R s m args below meth c A Qc XC mc ms free n0 ad0 ad ls H locs cells slots hB hF hW hL hS2 hc hs) (fun q => kf (fun z => z ((jn_eq ha h0).mp q)) p l e R s m args below meth c A Qc XC mc ms free n0 ad0 ad ls H locs cells slots hB hF hW hL hS2 hc hs)
theorem j_icmp_lt {a b off : Int} {tgt : Nat} (hd : decode M.2.1 pc = .ok (.if_icmp .lt off, 3)) (ht : (pc : Int) + off = (tgt : Int)) (ha : jin a) (hb : jin b) (kt : a < b → jW G M d Q tgt L S h rc rs) (kf : ¬ (a < b) → jW G M d Q (pc + 3) L S h rc rs) : jW G M d Q pc L (jI b :: jI a :: S) h rc rs := by
  intro p l e R s m args below meth c A Qc XC mc ms free n0 ad0 ad ls H locs cells slots hB hF hW hL hS hc hs
  have hS2 := (List.forall_mem_cons.mp (List.forall_mem_cons.mp hS).2).2
  exact lv_icmp_lt hB.1 hB.2.1 hd ht (fun q => kt ((jn_lt ha hb).mp q) p l e R s m args below meth c A Qc XC mc ms free n0 ad0 ad ls H locs cells slots hB hF hW hL hS2 hc hs) (fun q => kf (fun z => q ((jn_lt ha hb).mpr z)) p l e R s m args below meth c A Qc XC mc ms free n0 ad0 ad ls H locs cells slots hB hF hW hL hS2 hc hs)
theorem j_if_lt {a off : Int} {tgt : Nat} (hd : decode M.2.1 pc = .ok (.ifCond .lt off, 3)) (ht : (pc : Int) + off = (tgt : Int)) (ha : jin a) (kt : a < 0 → jW G M d Q tgt L S h rc rs) (kf : ¬ (a < 0) → jW G M d Q (pc + 3) L S h rc rs) : jW G M d Q pc L (jI a :: S) h rc rs := by
  intro p l e R s m args below meth c A Qc XC mc ms free n0 ad0 ad ls H locs cells slots hB hF hW hL hS hc hs
  have hS2 := (List.forall_mem_cons.mp hS).2
  have h0 : jin 0 := ⟨by decide, by decide⟩
  exact lv_if_lt hB.1 hB.2.1 hd ht (fun q => kt ((jn_lt ha h0).mp q) p l e R s m args below meth c A Qc XC mc ms free n0 ad0 ad ls H locs cells slots hB hF hW hL hS2 hc hs) (fun q => kf (fun z => q ((jn_lt ha h0).mpr z)) p l e R s m args below meth c A Qc XC mc ms free n0 ad0 ad ls H locs cells slots hB hF hW hL hS2 hc hs)
theorem j_icmp_ge {a b off : Int} {tgt : Nat} (hd : decode M.2.1 pc = .ok (.if_icmp .ge off, 3)) (ht : (pc : Int) + off = (tgt : Int)) (ha : jin a) (hb : jin b) (kt : b ≤ a → jW G M d Q tgt L S h rc rs) (kf : ¬ (b ≤ a) → jW G M d Q (pc + 3) L S h rc rs) : jW G M d Q pc L (jI b :: jI a :: S) h rc rs := by
  intro p l e R s m args below meth c A Qc XC mc ms free n0 ad0 ad ls H locs cells slots hB hF hW hL hS hc hs
  have hS2 := (List.forall_mem_cons.mp (List.forall_mem_cons.mp hS).2).2
  exact lv_icmp_ge hB.1 hB.2.1 hd ht (fun q => kt ((jn_le hb ha).mp q) p l e R s m args below meth c A Qc XC mc ms free n0 ad0 ad ls H locs cells slots hB hF hW hL hS2 hc hs) (fun q => kf (fun z => q ((jn_le hb ha).mpr z)) p l e R s m args below meth c A Qc XC mc ms free n0 ad0 ad ls H locs cells slots hB hF hW hL hS2 hc hs)
theorem j_if_ge {a off : Int} {tgt : Nat} (hd : decode M.2.1 pc = .ok (.ifCond .ge off, 3)) (ht : (pc : Int) + off = (tgt : Int)) (ha : jin a) (kt : 0 ≤ a → jW G M d Q tgt L S h rc rs) (kf : ¬ (0 ≤ a) → jW G M d Q (pc + 3) L S h rc rs) : jW G M d Q pc L (jI a :: S) h rc rs := by
  intro p l e R s m args below meth c A Qc XC mc ms free n0 ad0 ad ls H locs cells slots hB hF hW hL hS hc hs
  have hS2 := (List.forall_mem_cons.mp hS).2
  have h0 : jin 0 := ⟨by decide, by decide⟩
  exact lv_if_ge hB.1 hB.2.1 hd ht (fun q => kt ((jn_le h0 ha).mp q) p l e R s m args below meth c A Qc XC mc ms free n0 ad0 ad ls H locs cells slots hB hF hW hL hS2 hc hs) (fun q => kf (fun z => q ((jn_le h0 ha).mpr z)) p l e R s m args below meth c A Qc XC mc ms free n0 ad0 ad ls H locs cells slots hB hF hW hL hS2 hc hs)
theorem j_icmp_gt {a b off : Int} {tgt : Nat} (hd : decode M.2.1 pc = .ok (.if_icmp .gt off, 3)) (ht : (pc : Int) + off = (tgt : Int)) (ha : jin a) (hb : jin b) (kt : b < a → jW G M d Q tgt L S h rc rs) (kf : ¬ (b < a) → jW G M d Q (pc + 3) L S h rc rs) : jW G M d Q pc L (jI b :: jI a :: S) h rc rs := by
  intro p l e R s m args below meth c A Qc XC mc ms free n0 ad0 ad ls H locs cells slots hB hF hW hL hS hc hs
  have hS2 := (List.forall_mem_cons.mp (List.forall_mem_cons.mp hS).2).2
  exact lv_icmp_gt hB.1 hB.2.1 hd ht (fun q => kt ((jn_lt hb ha).mp q) p l e R s m args below meth c A Qc XC mc ms free n0 ad0 ad ls H locs cells slots hB hF hW hL hS2 hc hs) (fun q => kf (fun z => q ((jn_lt hb ha).mpr z)) p l e R s m args below meth c A Qc XC mc ms free n0 ad0 ad ls H locs cells slots hB hF hW hL hS2 hc hs)
theorem j_if_gt {a off : Int} {tgt : Nat} (hd : decode M.2.1 pc = .ok (.ifCond .gt off, 3)) (ht : (pc : Int) + off = (tgt : Int)) (ha : jin a) (kt : 0 < a → jW G M d Q tgt L S h rc rs) (kf : ¬ (0 < a) → jW G M d Q (pc + 3) L S h rc rs) : jW G M d Q pc L (jI a :: S) h rc rs := by
  intro p l e R s m args below meth c A Qc XC mc ms free n0 ad0 ad ls H locs cells slots hB hF hW hL hS hc hs
  have hS2 := (List.forall_mem_cons.mp hS).2
  have h0 : jin 0 := ⟨by decide, by decide⟩
  exact lv_if_gt hB.1 hB.2.1 hd ht (fun q => kt ((jn_lt h0 ha).mp q) p l e R s m args below meth c A Qc XC mc ms free n0 ad0 ad ls H locs cells slots hB hF hW hL hS2 hc hs) (fun q => kf (fun z => q ((jn_lt h0 ha).mpr z)) p l e R s m args below meth c A Qc XC mc ms free n0 ad0 ad ls H locs cells slots hB hF hW hL hS2 hc hs)
theorem j_icmp_le {a b off : Int} {tgt : Nat} (hd : decode M.2.1 pc = .ok (.if_icmp .le off, 3)) (ht : (pc : Int) + off = (tgt : Int)) (ha : jin a) (hb : jin b) (kt : a ≤ b → jW G M d Q tgt L S h rc rs) (kf : ¬ (a ≤ b) → jW G M d Q (pc + 3) L S h rc rs) : jW G M d Q pc L (jI b :: jI a :: S) h rc rs := by
  intro p l e R s m args below meth c A Qc XC mc ms free n0 ad0 ad ls H locs cells slots hB hF hW hL hS hc hs
  have hS2 := (List.forall_mem_cons.mp (List.forall_mem_cons.mp hS).2).2
  exact lv_icmp_le hB.1 hB.2.1 hd ht (fun q => kt ((jn_le ha hb).mp q) p l e R s m args below meth c A Qc XC mc ms free n0 ad0 ad ls H locs cells slots hB hF hW hL hS2 hc hs) (fun q => kf (fun z => q ((jn_le ha hb).mpr z)) p l e R s m args below meth c A Qc XC mc ms free n0 ad0 ad ls H locs cells slots hB hF hW hL hS2 hc hs)
theorem j_if_le {a off : Int} {tgt : Nat} (hd : decode M.2.1 pc = .ok (.ifCond .le off, 3)) (ht : (pc : Int) + off = (tgt : Int)) (ha : jin a) (kt : a ≤ 0 → jW G M d Q tgt L S h rc rs) (kf : ¬ (a ≤ 0) → jW G M d Q (pc + 3) L S h rc rs) : jW G M d Q pc L (jI a :: S) h rc rs := by
  intro p l e R s m args below meth c A Qc XC mc ms free n0 ad0 ad ls H locs cells slots hB hF hW hL hS hc hs
  have hS2 := (List.forall_mem_cons.mp hS).2
  have h0 : jin 0 := ⟨by decide, by decide⟩
  exact lv_if_le hB.1 hB.2.1 hd ht (fun q => kt ((jn_le ha h0).mp q) p l e R s m args below meth c A Qc XC mc ms free n0 ad0 ad ls H locs cells slots hB hF hW hL hS2 hc hs) (fun q => kf (fun z => q ((jn_le ha h0).mpr z)) p l e R s m args below meth c A Qc XC mc ms free n0 ad0 ad ls H locs cells slots hB hF hW hL hS2 hc hs)
theorem j_goto {off : Int} {tgt : Nat} (hd : decode M.2.1 pc = .ok (.goto off, 3)) (ht : (pc : Int) + off = (tgt : Int)) (k : jW G M d Q tgt L S h rc rs) : jW G M d Q pc L S h rc rs := by
  intro p l e R s m args below meth c A Qc XC mc ms free n0 ad0 ad ls H locs cells slots hB hF hW hL hS hc hs
  exact lv_goto hB.1 hB.2.1 hd ht (k p l e R s m args below meth c A Qc XC mc ms free n0 ad0 ad ls H locs cells slots hB hF hW hL hS hc hs)
theorem j_dup {v : jzV} (hd : decode M.2.1 pc = .ok (.dup, 1)) (hv : jone v) (k : jW G M d Q (pc + 1) L (v :: v :: S) h rc rs) : jW G M d Q pc L (v :: S) h rc rs := by
  intro p l e R s m args below meth c A Qc XC mc ms free n0 ad0 ad ls H locs cells slots hB hF hW hL hS hc hs
  exact lv_dup hB.1 hB.2.1 hd (jzv_cat hv) (k p l e R s m args below meth c A Qc XC mc ms free n0 ad0 ad ls H locs cells slots hB hF hW hL (List.forall_mem_cons.mpr ⟨(List.forall_mem_cons.mp hS).1, hS⟩) hc hs)
theorem j_dup2 {v w : jzV} (hd : decode M.2.1 pc = .ok (.dup2, 1)) (hv : jone v) (hw : jone w) (k : jW G M d Q (pc + 1) L (v :: w :: v :: w :: S) h rc rs) : jW G M d Q pc L (v :: w :: S) h rc rs := by
  intro p l e R s m args below meth c A Qc XC mc ms free n0 ad0 ad ls H locs cells slots hB hF hW hL hS hc hs
  have h1 := List.forall_mem_cons.mp hS
  have h2 := List.forall_mem_cons.mp h1.2
  exact lv_dup2_11 hB.1 hB.2.1 hd (jzv_cat hv) (jzv_cat hw) (k p l e R s m args below meth c A Qc XC mc ms free n0 ad0 ad ls H locs cells slots hB hF hW hL (List.forall_mem_cons.mpr ⟨h1.1, List.forall_mem_cons.mpr ⟨h2.1, hS⟩⟩) hc hs)
theorem j_pop {v : jzV} (hd : decode M.2.1 pc = .ok (.pop, 1)) (hv : jone v) (k : jW G M d Q (pc + 1) L S h rc rs) : jW G M d Q pc L (v :: S) h rc rs := by
  intro p l e R s m args below meth c A Qc XC mc ms free n0 ad0 ad ls H locs cells slots hB hF hW hL hS hc hs
  exact lv_pop hB.1 hB.2.1 hd (jzv_cat hv) (k p l e R s m args below meth c A Qc XC mc ms free n0 ad0 ad ls H locs cells slots hB hF hW hL (List.forall_mem_cons.mp hS).2 hc hs)
theorem j_ifnonnull {off : Int} {tgt : Nat} {r : Option Nat} (hd : decode M.2.1 pc = .ok (.ifnonnull off, 3)) (ht : (pc : Int) + off = (tgt : Int)) (kt : ∀ a, r = some a → jW G M d Q tgt L S h rc rs) (kf : r = none → jW G M d Q (pc + 3) L S h rc rs) : jW G M d Q pc L (jR r :: S) h rc rs := by
  intro p l e R s m args below meth c A Qc XC mc ms free n0 ad0 ad ls H locs cells slots hB hF hW hL hS hc hs
  have hS2 := (List.forall_mem_cons.mp hS).2
  cases r with
  | none => exact lv_ifnonnullN hB.1 hB.2.1 hd (kf rfl p l e R s m args below meth c A Qc XC mc ms free n0 ad0 ad ls H locs cells slots hB hF hW hL hS2 hc hs)
  | some a => exact lv_ifnonnull hB.1 hB.2.1 hd ht (kt a rfl p l e R s m args below meth c A Qc XC mc ms free n0 ad0 ad ls H locs cells slots hB hF hW hL hS2 hc hs)
theorem j_ifnull {off : Int} {tgt : Nat} {r : Option Nat} (hd : decode M.2.1 pc = .ok (.ifnull off, 3)) (ht : (pc : Int) + off = (tgt : Int)) (kt : r = none → jW G M d Q tgt L S h rc rs) (kf : ∀ a, r = some a → jW G M d Q (pc + 3) L S h rc rs) : jW G M d Q pc L (jR r :: S) h rc rs := by
  intro p l e R s m args below meth c A Qc XC mc ms free n0 ad0 ad ls H locs cells slots hB hF hW hL hS hc hs
  have hS2 := (List.forall_mem_cons.mp hS).2
  cases r with
  | none => exact lv_ifnullN hB.1 hB.2.1 hd ht (kt rfl p l e R s m args below meth c A Qc XC mc ms free n0 ad0 ad ls H locs cells slots hB hF hW hL hS2 hc hs)
  | some a => exact lv_ifnull hB.1 hB.2.1 hd (kf a rfl p l e R s m args below meth c A Qc XC mc ms free n0 ad0 ad ls H locs cells slots hB hF hW hL hS2 hc hs)
theorem j_i2l {a : Int} (hd : decode M.2.1 pc = .ok (.i2l, 1)) (k : jW G M d Q (pc + 1) L (jJ (jwr a) :: S) h rc rs) : jW G M d Q pc L (jI a :: S) h rc rs := by
  intro p l e R s m args below meth c A Qc XC mc ms free n0 ad0 ad ls H locs cells slots hB hF hW hL hS hc hs
  exact lv_i2l hB.1 hB.2.1 hd (jn_i2l a) (k p l e R s m args below meth c A Qc XC mc ms free n0 ad0 ad ls H locs cells slots hB hF hW hL (List.forall_mem_cons.mpr ⟨trivial, (List.forall_mem_cons.mp hS).2⟩) hc hs)
theorem j_lconst {n : Fin 2} (hd : decode M.2.1 pc = .ok (.lconst n, 1)) (k : jW G M d Q (pc + 1) L (jJ (n.val : Int) :: S) h rc rs) : jW G M d Q pc L S h rc rs := by
  intro p l e R s m args below meth c A Qc XC mc ms free n0 ad0 ad ls H locs cells slots hB hF hW hL hS hc hs
  exact lv_lconst hB.1 hB.2.1 hd (jn_lc n) (k p l e R s m args below meth c A Qc XC mc ms free n0 ad0 ad ls H locs cells slots hB hF hW hL (List.forall_mem_cons.mpr ⟨trivial, hS⟩) hc hs)
theorem j_lcmp {a b : Int} (hd : decode M.2.1 pc = .ok (.lcmp, 1)) (hab : a = b) (k : jW G M d Q (pc + 1) L (jI 0 :: S) h rc rs) : jW G M d Q pc L (jJ b :: jJ a :: S) h rc rs := by
  intro p l e R s m args below meth c A Qc XC mc ms free n0 ad0 ad ls H locs cells slots hB hF hW hL hS hc hs
  subst hab
  have kk := (k p l e R s m args below meth c A Qc XC mc ms free n0 ad0 ad ls H locs cells slots hB hF hW hL (List.forall_mem_cons.mpr ⟨trivial, (List.forall_mem_cons.mp (List.forall_mem_cons.mp hS).2).2⟩) hc hs)
  refine W.lcmp hB.1 hB.2.1 hd ?_
  rw [show lg_cmp (Int64.ofInt a) (Int64.ofInt a) = Int32.ofInt 0 by simp [lg_cmp]]
  exact kk
theorem j_tswIn {dflt lo hi off a : Int} {offs : Array Int} {len tgt : Nat} (hd : decode M.2.1 pc = .ok (.tableswitch dflt lo hi offs, len)) (ha : jin a) (h1 : lo ≤ a) (h2 : a ≤ hi) (ho : offs[(a - lo).toNat]? = some off) (ht : (pc : Int) + off = (tgt : Int)) (k : jW G M d Q tgt L S h rc rs) : jW G M d Q pc L (jI a :: S) h rc rs := by
  intro p l e R s m args below meth c A Qc XC mc ms free n0 ad0 ad ls H locs cells slots hB hF hW hL hS hc hs
  exact lv_tableIn hB.1 hB.2.1 hd (by rw [jn_toInt ha]; omega) (by rw [jn_toInt ha]; omega) (by rw [jn_toInt ha]; exact ho) ht (k p l e R s m args below meth c A Qc XC mc ms free n0 ad0 ad ls H locs cells slots hB hF hW hL (List.forall_mem_cons.mp hS).2 hc hs)
theorem j_tswOut {dflt lo hi a : Int} {offs : Array Int} {len tgt : Nat} (hd : decode M.2.1 pc = .ok (.tableswitch dflt lo hi offs, len)) (ha : jin a) (h1 : a < lo ∨ hi < a) (ht : (pc : Int) + dflt = (tgt : Int)) (k : jW G M d Q tgt L S h rc rs) : jW G M d Q pc L (jI a :: S) h rc rs := by
  intro p l e R s m args below meth c A Qc XC mc ms free n0 ad0 ad ls H locs cells slots hB hF hW hL hS hc hs
  exact lv_tableOut hB.1 hB.2.1 hd (by rw [jn_toInt ha]; exact h1) ht (k p l e R s m args below meth c A Qc XC mc ms free n0 ad0 ad ls H locs cells slots hB hF hW hL (List.forall_mem_cons.mp hS).2 hc hs)
/-- an int may be brought into its bounds at any time -/
theorem j_wrap {a : Int} (k : jW G M d Q pc L (jI (jwr a) :: S) h rc rs) : jW G M d Q pc L (jI a :: S) h rc rs := by
  intro p l e R s m args below meth c A Qc XC mc ms free n0 ad0 ad ls H locs cells slots hB hF hW hL hS hc hs
  have kk := (k p l e R s m args below meth c A Qc XC mc ms free n0 ad0 ad ls H locs cells slots hB hF hW hL (List.forall_mem_cons.mpr ⟨trivial, (List.forall_mem_cons.mp hS).2⟩) hc hs)
  have e : (jI (jwr a) :: S).map (jzv G ad) = (jI a :: S).map (jzv G ad) := by
    show Value.int (Int32.ofInt (jwr a)) :: _ = Value.int (Int32.ofInt a) :: _
    rw [jwr, jn_of]
  rw [e] at kk
  exact kk
/-- fewer locals may be known -/
theorem j_locals {L' : List (Option jzV)} (hl : ∀ (i : Nat) (v : jzV), L'[i]? = some (some v) → L[i]? = some (some v)) (k : jW G M d Q pc L' S h rc rs) : jW G M d Q pc L S h rc rs := by
  intro p l e R s m args below meth c A Qc XC mc ms free n0 ad0 ad ls H locs cells slots hB hF hW hL hS hc hs
  exact (k p l e R s m args below meth c A Qc XC mc ms free n0 ad0 ad ls H locs cells slots hB hF hW ⟨hL.1, hL.2.1, fun i v q => hL.2.2 i v (hl i v q)⟩ hS hc hs)
theorem j_less {rc' rs' : Nat} (h1 : rc' ≤ rc) (h2 : rs' ≤ rs) (k : jW G M d Q pc L S h rc' rs') : jW G M d Q pc L S h rc rs := by
  intro p l e R s m args below meth c A Qc XC mc ms free n0 ad0 ad ls H locs cells slots hB hF hW hL hS hc hs
  exact (k p l e R s m args below meth c A Qc XC mc ms free n0 ad0 ad ls H locs cells slots hB hF hW hL hS (by omega) (by omega))
end Rows
