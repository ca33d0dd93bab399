/-! DAYS AHEAD, BOTH SIDES -/
section Rows9
variable {G : jzG} {M : jzM} {d pc rc rs : Nat} {Q : jzO → jzH → Prop} {L : List (Option jzV)} {S : List jzV} {sh : List (Nat × Nat)} {I : Nat → Int → Int} {F F' : Nat → Int → Option Nat}
theorem r_cv0GI {r : Int} {P : (Nat → Int → Int) → Prop} {M' : jzM} {idx i ci len mc' ms' rc' rs' : Nat} (hd : decode M.2.1 pc = .ok (.invokevirtual idx, 3)) (hw : jCV M.1.cls idx (jzCn ci) 0 M') (hc1 : ci < 10) (hi : sh[i]? = some (ci, len)) (h8 : (S.map jct).sum ≤ 8) (h9 : mc' + rc' ≤ rc) (h10 : ms' + rs' ≤ rs) (sp : jS G d M' (jR (some i) :: []) (sh, I, F) mc' ms' (rEI r sh F' P)) (k : ∀ I', P I' → jW G M (d + 1) Q (pc + 3) L (jI r :: S) (sh, I', F') rc' rs') : jW G M (d + 1) Q pc L (jR (some i) :: S) (sh, I, F) rc rs :=
  j_callV (As := []) hd hw hc1 hi rfl h8 h9 h10 (jS_mono sp (fun o h hq => by obtain ⟨I', rfl, rfl, hp⟩ := hq; exact k I' hp))
theorem r_cv0GV {P : (Nat → Int → Int) → Prop} {M' : jzM} {idx i ci len mc' ms' rc' rs' : Nat} (hd : decode M.2.1 pc = .ok (.invokevirtual idx, 3)) (hw : jCV M.1.cls idx (jzCn ci) 0 M') (hc1 : ci < 10) (hi : sh[i]? = some (ci, len)) (h8 : (S.map jct).sum ≤ 8) (h9 : mc' + rc' ≤ rc) (h10 : ms' + rs' ≤ rs) (sp : jS G d M' (jR (some i) :: []) (sh, I, F) mc' ms' (rEV sh F' P)) (k : ∀ I', P I' → jW G M (d + 1) Q (pc + 3) L (S) (sh, I', F') rc' rs') : jW G M (d + 1) Q pc L (jR (some i) :: S) (sh, I, F) rc rs :=
  j_callV (As := []) hd hw hc1 hi rfl h8 h9 h10 (jS_mono sp (fun o h hq => by obtain ⟨I', rfl, rfl, hp⟩ := hq; exact k I' hp))
theorem r_cv1GI {v1 : jzV} {r : Int} {P : (Nat → Int → Int) → Prop} {M' : jzM} {idx i ci len mc' ms' rc' rs' : Nat} (hd : decode M.2.1 pc = .ok (.invokevirtual idx, 3)) (hw : jCV M.1.cls idx (jzCn ci) 1 M') (hc1 : ci < 10) (hi : sh[i]? = some (ci, len)) (h8 : (S.map jct).sum ≤ 8) (h9 : mc' + rc' ≤ rc) (h10 : ms' + rs' ≤ rs) (sp : jS G d M' (jR (some i) :: [v1]) (sh, I, F) mc' ms' (rEI r sh F' P)) (k : ∀ I', P I' → jW G M (d + 1) Q (pc + 3) L (jI r :: S) (sh, I', F') rc' rs') : jW G M (d + 1) Q pc L (v1 :: jR (some i) :: S) (sh, I, F) rc rs :=
  j_callV (As := [v1]) hd hw hc1 hi rfl h8 h9 h10 (jS_mono sp (fun o h hq => by obtain ⟨I', rfl, rfl, hp⟩ := hq; exact k I' hp))
theorem r_cv1GV {v1 : jzV} {P : (Nat → Int → Int) → Prop} {M' : jzM} {idx i ci len mc' ms' rc' rs' : Nat} (hd : decode M.2.1 pc = .ok (.invokevirtual idx, 3)) (hw : jCV M.1.cls idx (jzCn ci) 1 M') (hc1 : ci < 10) (hi : sh[i]? = some (ci, len)) (h8 : (S.map jct).sum ≤ 8) (h9 : mc' + rc' ≤ rc) (h10 : ms' + rs' ≤ rs) (sp : jS G d M' (jR (some i) :: [v1]) (sh, I, F) mc' ms' (rEV sh F' P)) (k : ∀ I', P I' → jW G M (d + 1) Q (pc + 3) L (S) (sh, I', F') rc' rs') : jW G M (d + 1) Q pc L (v1 :: jR (some i) :: S) (sh, I, F) rc rs :=
  j_callV (As := [v1]) hd hw hc1 hi rfl h8 h9 h10 (jS_mono sp (fun o h hq => by obtain ⟨I', rfl, rfl, hp⟩ := hq; exact k I' hp))
theorem r_cv2GI {v1 v2 : jzV} {r : Int} {P : (Nat → Int → Int) → Prop} {M' : jzM} {idx i ci len mc' ms' rc' rs' : Nat} (hd : decode M.2.1 pc = .ok (.invokevirtual idx, 3)) (hw : jCV M.1.cls idx (jzCn ci) 2 M') (hc1 : ci < 10) (hi : sh[i]? = some (ci, len)) (h8 : (S.map jct).sum ≤ 8) (h9 : mc' + rc' ≤ rc) (h10 : ms' + rs' ≤ rs) (sp : jS G d M' (jR (some i) :: [v1, v2]) (sh, I, F) mc' ms' (rEI r sh F' P)) (k : ∀ I', P I' → jW G M (d + 1) Q (pc + 3) L (jI r :: S) (sh, I', F') rc' rs') : jW G M (d + 1) Q pc L (v2 :: v1 :: jR (some i) :: S) (sh, I, F) rc rs :=
  j_callV (As := [v1, v2]) hd hw hc1 hi rfl h8 h9 h10 (jS_mono sp (fun o h hq => by obtain ⟨I', rfl, rfl, hp⟩ := hq; exact k I' hp))
theorem r_cv2GV {v1 v2 : jzV} {P : (Nat → Int → Int) → Prop} {M' : jzM} {idx i ci len mc' ms' rc' rs' : Nat} (hd : decode M.2.1 pc = .ok (.invokevirtual idx, 3)) (hw : jCV M.1.cls idx (jzCn ci) 2 M') (hc1 : ci < 10) (hi : sh[i]? = some (ci, len)) (h8 : (S.map jct).sum ≤ 8) (h9 : mc' + rc' ≤ rc) (h10 : ms' + rs' ≤ rs) (sp : jS G d M' (jR (some i) :: [v1, v2]) (sh, I, F) mc' ms' (rEV sh F' P)) (k : ∀ I', P I' → jW G M (d + 1) Q (pc + 3) L (S) (sh, I', F') rc' rs') : jW G M (d + 1) Q pc L (v2 :: v1 :: jR (some i) :: S) (sh, I, F) rc rs :=
  j_callV (As := [v1, v2]) hd hw hc1 hi rfl h8 h9 h10 (jS_mono sp (fun o h hq => by obtain ⟨I', rfl, rfl, hp⟩ := hq; exact k I' hp))
theorem r_cv3GI {v1 v2 v3 : jzV} {r : Int} {P : (Nat → Int → Int) → Prop} {M' : jzM} {idx i ci len mc' ms' rc' rs' : Nat} (hd : decode M.2.1 pc = .ok (.invokevirtual idx, 3)) (hw : jCV M.1.cls idx (jzCn ci) 3 M') (hc1 : ci < 10) (hi : sh[i]? = some (ci, len)) (h8 : (S.map jct).sum ≤ 8) (h9 : mc' + rc' ≤ rc) (h10 : ms' + rs' ≤ rs) (sp : jS G d M' (jR (some i) :: [v1, v2, v3]) (sh, I, F) mc' ms' (rEI r sh F' P)) (k : ∀ I', P I' → jW G M (d + 1) Q (pc + 3) L (jI r :: S) (sh, I', F') rc' rs') : jW G M (d + 1) Q pc L (v3 :: v2 :: v1 :: jR (some i) :: S) (sh, I, F) rc rs :=
  j_callV (As := [v1, v2, v3]) hd hw hc1 hi rfl h8 h9 h10 (jS_mono sp (fun o h hq => by obtain ⟨I', rfl, rfl, hp⟩ := hq; exact k I' hp))
theorem r_cv3GV {v1 v2 v3 : jzV} {P : (Nat → Int → Int) → Prop} {M' : jzM} {idx i ci len mc' ms' rc' rs' : Nat} (hd : decode M.2.1 pc = .ok (.invokevirtual idx, 3)) (hw : jCV M.1.cls idx (jzCn ci) 3 M') (hc1 : ci < 10) (hi : sh[i]? = some (ci, len)) (h8 : (S.map jct).sum ≤ 8) (h9 : mc' + rc' ≤ rc) (h10 : ms' + rs' ≤ rs) (sp : jS G d M' (jR (some i) :: [v1, v2, v3]) (sh, I, F) mc' ms' (rEV sh F' P)) (k : ∀ I', P I' → jW G M (d + 1) Q (pc + 3) L (S) (sh, I', F') rc' rs') : jW G M (d + 1) Q pc L (v3 :: v2 :: v1 :: jR (some i) :: S) (sh, I, F) rc rs :=
  j_callV (As := [v1, v2, v3]) hd hw hc1 hi rfl h8 h9 h10 (jS_mono sp (fun o h hq => by obtain ⟨I', rfl, rfl, hp⟩ := hq; exact k I' hp))
end Rows9
theorem StAt_F {sh : List (Nat × Nat)} {F : Nat → Int → Option Nat} {s e : Nat} {r : Option Nat} (h : StAt sh F s) : StAt sh (jup F e 18 r) s := by
  unfold StAt
  rw [jup_row _ _ _ (by decide), jup_row _ _ _ (by decide), jup_row _ _ _ (by decide), jup_row _ _ _ (by decide), jup_row _ _ _ (by decide), jup_row _ _ _ (by decide), jup_row _ _ _ (by decide), jup_row _ _ _ (by decide), jup_row _ _ _ (by decide)]
  exact h
theorem fxL_18 : ∀ q ∈ fxB, q.2.1 ≠ 18 := by decide +kernel
theorem FxOK_F {F : Nat → Int → Option Nat} {e : Nat} {r : Option Nat} (h : FxOK F) : FxOK (jup F e 18 r) := fun a k b hb => by
  have hk : k ≠ 18 := by
    unfold fxL at hb
    cases hq : fxB.find? (fun q => q.1 == a && q.2.1 == k) with
    | none => rw [hq] at hb; cases hb
    | some q =>
      have h1 := fxL_18 q (List.mem_of_find?_eq_some hq)
      have h2 := List.find?_some hq
      simp only [Bool.and_eq_true, beq_iff_eq] at h2
      rw [← h2.2]; exact h1
  rw [jup_row _ _ _ hk]
  exact h a k b hb
theorem LawAt_F {sh : List (Nat × Nat)} {I : Nat → Int → Int} {F : Nat → Int → Option Nat} {l e : Nat} {r : Option Nat} {w : Int → Int} (h : LawAt sh I F l w) : LawAt sh I (jup F e 18 r) l w := by
  obtain ⟨a1, a0, la, ls, lc, nc, f, p, s, a2, a3⟩ := h
  exact ⟨a1, a0, la, ls, lc, nc, by rw [jup_row _ _ _ (by decide), jup_row _ _ _ (by decide), jup_row _ _ _ (by decide)]; exact f, p, s, a2, a3⟩
theorem LwR_tk {sh : List (Nat × Nat)} {I : Nat → Int → Int} {F : Nat → Int → Option Nat} {t e : Nat} {w : Int → Int} (h : LwR sh I F t w) : LwR sh I (jup F e 18 (F t 18)) e w := by
  rcases h with ⟨h1, h2⟩ | ⟨a, l, b, c⟩
  · exact Or.inl ⟨h1, by rw [jup_same]; exact h2⟩
  · exact Or.inr ⟨a, l, by rw [jup_same]; exact b, LawAt_F c⟩
theorem LwR_F {sh : List (Nat × Nat)} {I : Nat → Int → Int} {F : Nat → Int → Option Nat} {s e : Nat} {r : Option Nat} {w : Int → Int} (hne : s ≠ e) (h : LwR sh I F s w) : LwR sh I (jup F e 18 r) s w := by
  rcases h with ⟨h1, h2⟩ | ⟨a, l, b, c⟩
  · exact Or.inl ⟨h1, by rw [jup_cell _ _ _ _ hne]; exact h2⟩
  · exact Or.inr ⟨a, l, by rw [jup_cell _ _ _ _ hne]; exact b, LawAt_F c⟩
/-! ### days, one behind the other -/
def dStep (calm : Int) (X : dX) : dX := (mDay calm X.1 X.2.1 X.2.2.1 X.2.2.2, (dCore calm X.1 X.2.1 X.2.2.1 X.2.2.2).2.1, (dCore calm X.1 X.2.1 X.2.2.1 X.2.2.2).2.2.1, (dEnd calm X.1 X.2.1 X.2.2.1 X.2.2.2).2)
def mDays (calm : Int) (X : dX) (n : Nat) : dX := jfold (fun _ X => dStep calm X) X n
theorem mDays_s (calm : Int) (X : dX) {z : Int} (h : 0 ≤ z) : mDays calm X (z + 1).toNat = dStep calm (mDays calm X z.toNat) := jfold_s _ _ h
def dOK (w : Int → Int) (X : dX) (k : Int) : Prop := WF X.1 ∧ (w 9 ≤ X.1 9 ∧ X.1 9 ≤ w 9 + 8 * k) ∧ (0 ≤ X.1 10 ∧ X.1 10 ≤ 60) ∧ ∀ j, (j < 3 ∨ (4 ≤ j ∧ j < 8) ∨ (116 ≤ j ∧ j < 180) ∨ 420 ≤ j ∨ (∃ q, 0 ≤ q ∧ (j = 12 + 13 * q ∨ j = 12 + 13 * q + 3) ∧ j < 116)) → X.1 j = w j
theorem dOK_0 {w a b f : Int → Int} (hW : WF w) (h10 : 0 ≤ w 10 ∧ w 10 ≤ 60) : dOK w (w, a, b, f) 0 := ⟨hW, ⟨Int.le_refl _, by show w 9 ≤ w 9 + 8 * 0; omega⟩, h10, fun _ _ => rfl⟩
theorem mDay_o {calm : Int} {w a b f : Int → Int} (hW : WF w) {j : Int} (hj : j < 3 ∨ (4 ≤ j ∧ j < 8) ∨ (116 ≤ j ∧ j < 180) ∨ 420 ≤ j ∨ (∃ q, 0 ≤ q ∧ (j = 12 + 13 * q ∨ j = 12 + 13 * q + 3) ∧ j < 116)) : mDay calm w a b f j = w j := by
  have he := dEnd_ok (calm := calm) (a := a) (b := b) (f := f) hW
  unfold mDay
  have h3 : j ≠ 3 := by rcases hj with h | h | h | h | ⟨q, h⟩ <;> omega
  rw [wup_ne _ _ h3, dTold_o (by rcases hj with h | h | h | h | ⟨q, h⟩ <;> omega)]
  refine he.2.2 j ?_
  rcases hj with h | h | h | h | ⟨q, h⟩
  · omega
  · omega
  · omega
  · omega
  · exact Or.inr (Or.inr ⟨q, h.1, h.2.1⟩)
theorem dOK_s {calm k : Int} {w : Int → Int} {X : dX} (h : dOK w X k) (h9 : 0 ≤ w 9) : dOK w (dStep calm X) (k + 1) := by
  obtain ⟨h1, h2, h3, h4⟩ := h
  have := mDay_ok (calm := calm) (a := X.2.1) (b := X.2.2.1) (f := X.2.2.2) h1 (by omega) h3
  refine ⟨this.1, ?_, this.2.2.1, fun j hj => (mDay_o h1 hj).trans (h4 j hj)⟩
  have t := this.2.1
  show w 9 ≤ mDay calm X.1 X.2.1 X.2.2.1 X.2.2.2 9 ∧ mDay calm X.1 X.2.1 X.2.2.1 X.2.2.2 9 ≤ w 9 + 8 * (k + 1)
  omega
theorem mDays_ok {calm : Int} {w a b f : Int → Int} (hW : WF w) (h9 : 0 ≤ w 9) (h10 : 0 ≤ w 10 ∧ w 10 ≤ 60) (n : Nat) : dOK w (mDays calm (w, a, b, f) n) n :=
  jfold_ind (f := fun _ X => dStep calm X) (a := (w, a, b, f)) (fun k X => dOK w X k) (dOK_0 hW h10) (n := n) (fun k X _ _ ih => dOK_s ih h9)
def mCpy (f g : Int → Int) (n : Int) : Int → Int := fun k => if 0 ≤ k ∧ k < n then g k else f k
theorem mCpy_s {f g : Int → Int} {z : Int} (h : 0 ≤ z) : wup (mCpy f g z) z (g z) = mCpy f g (z + 1) := by
  funext k
  unfold wup mCpy
  by_cases e : k = z
  · subst e; rw [if_pos rfl, if_pos (by omega)]
  · rw [if_neg e]
    by_cases e2 : 0 ≤ k ∧ k < z
    · rw [if_pos e2, if_pos (by omega)]
    · rw [if_neg e2, if_neg (by omega)]
theorem mCpy_0 {f g : Int → Int} : mCpy f g 0 = f := by
  funext k
  unfold mCpy
  rw [if_neg (by omega)]
theorem mCpy_in {f g : Int → Int} {n k : Int} (h : 0 ≤ k ∧ k < n) : mCpy f g n k = g k := if_pos h
theorem mCpy_back {w' t w : Int → Int} (h : ∀ k, k < 0 ∨ 420 ≤ k → w' k = w k) : mCpy w' (mCpy t w 420) 420 = w := by
  funext k
  unfold mCpy
  by_cases e : 0 ≤ k ∧ k < 420
  · rw [if_pos e, if_pos e]
  · rw [if_neg e]; exact h k (by omega)
section
variable {G : jzG} {d : Nat} {sh : List (Nat × Nat)} {I : Nat → Int → Int} {F : Nat → Int → Option Nat} {w : Int → Int}
theorem sm_keepsAll (hsh : ShOK sh) (hfx : FxOK F) : jS G d mX12_keepsAll [jR (some 170)] (sh, I, F) 0 0 (rEV sh F (fun J => J 174 = mCpy (I 174) (I 171) 420 ∧ Fr1 174 I J)) := by
  refine jS_go [some (jR (some 170)), none] (by decide +kernel) rfl (by simp [jone]) (Nat.le_of_ble_eq_true rfl) rfl (fun hok => ?_)
  have key : ∀ (m : Nat) (z : Int) (J : Nat → Int → Int), z + m = 420 → 0 ≤ z → J 174 = mCpy (I 174) (I 171) z → Fr1 174 I J → jW G mX12_keepsAll d (rEV sh F (fun J => J 174 = mCpy (I 174) (I 171) 420 ∧ Fr1 174 I J)) 2 [some (jR (some 170)), some (jI z)] [] (sh, J, F) 0 0 := by
    intro m
    induction m with
    | zero =>
      intro z J hz hz0 h1 h2
      refine j_iload_n dX12_keepsAll_2 rfl ?_
      refine j_sipush dX12_keepsAll_3 (by decide) ?_
      refine j_icmp_ge (tgt := 27) dX12_keepsAll_6 rfl (by first | omega | (split <;> omega)) (by first | omega | (split <;> omega)) (fun c_6 => ?_) (fun c_6 => by exact absurd (by omega) c_6)
      refine j_vret dX12_keepsAll_27 rfl ?_
      exact rEV_of ⟨by rw [h1, show z = 420 by omega], h2⟩
    | succ m ih =>
      intro z J hz hz0 h1 h2
      have q : J 171 z = I 171 z := by rw [h2 171 (by decide)]
      have bq : jin (I 171 z) := hok.2.1 171 z
      refine j_iload_n dX12_keepsAll_2 rfl ?_
      refine j_sipush dX12_keepsAll_3 (by decide) ?_
      refine j_icmp_ge (tgt := 27) dX12_keepsAll_6 rfl (by first | omega | (split <;> omega)) (by first | omega | (split <;> omega)) (fun c_6 => by exact absurd c_6 (by omega)) (fun c_6 => ?_)
      refine j_aload_n dX12_keepsAll_9 rfl ?_
      refine r_getS dX12_keepsAll_10 flX12_23 (by first | assumption | exact hsh _ _ rfl) (fx_170_4 hfx) ?_
      refine j_iload_n dX12_keepsAll_13 rfl ?_
      refine j_aload_n dX12_keepsAll_14 rfl ?_
      refine r_getS dX12_keepsAll_15 flX12_13 (by first | assumption | exact hsh _ _ rfl) (fx_170_1 hfx) ?_
      refine j_iload_n dX12_keepsAll_18 rfl ?_
      refine r_ialoadE dX12_keepsAll_19 (by first | assumption | exact hsh _ _ rfl) (by first | omega | (split <;> omega)) (by first | omega | (split <;> omega)) q (fun b_19 => ?_)
      refine r_iastore dX12_keepsAll_20 (by first | assumption | exact hsh _ _ rfl) (by first | omega | (split <;> omega)) (by first | omega | (split <;> omega)) (by first | omega | (split <;> omega)) ?_
      refine j_iinc dX12_keepsAll_21 rfl (by decide) ?_
      refine j_goto (tgt := 2) dX12_keepsAll_24 rfl ?_
      exact ih (z + 1) _ (by omega) (by omega) (by rw [jup_at, h1, mCpy_s hz0]) (Fr1_up h2)
  refine j_iconst dX12_keepsAll_0 ?_
  refine j_istore_n dX12_keepsAll_1 (by decide) ?_
  exact key 420 0 I (by decide) (by decide) mCpy_0.symm (fun _ _ => rfl)
theorem sm_bringsBack (hsh : ShOK sh) (hfx : FxOK F) : jS G d mX12_bringsBack [jR (some 170)] (sh, I, F) 0 0 (rEV sh F (fun J => J 171 = mCpy (I 171) (I 174) 420 ∧ Fr1 171 I J)) := by
  refine jS_go [some (jR (some 170)), none] (by decide +kernel) rfl (by simp [jone]) (Nat.le_of_ble_eq_true rfl) rfl (fun hok => ?_)
  have key : ∀ (m : Nat) (z : Int) (J : Nat → Int → Int), z + m = 420 → 0 ≤ z → J 171 = mCpy (I 171) (I 174) z → Fr1 171 I J → jW G mX12_bringsBack d (rEV sh F (fun J => J 171 = mCpy (I 171) (I 174) 420 ∧ Fr1 171 I J)) 2 [some (jR (some 170)), some (jI z)] [] (sh, J, F) 0 0 := by
    intro m
    induction m with
    | zero =>
      intro z J hz hz0 h1 h2
      refine j_iload_n dX12_bringsBack_2 rfl ?_
      refine j_sipush dX12_bringsBack_3 (by decide) ?_
      refine j_icmp_ge (tgt := 27) dX12_bringsBack_6 rfl (by first | omega | (split <;> omega)) (by first | omega | (split <;> omega)) (fun c_6 => ?_) (fun c_6 => by exact absurd (by omega) c_6)
      refine j_vret dX12_bringsBack_27 rfl ?_
      exact rEV_of ⟨by rw [h1, show z = 420 by omega], h2⟩
    | succ m ih =>
      intro z J hz hz0 h1 h2
      have q : J 174 z = I 174 z := by rw [h2 174 (by decide)]
      have bq : jin (I 174 z) := hok.2.1 174 z
      refine j_iload_n dX12_bringsBack_2 rfl ?_
      refine j_sipush dX12_bringsBack_3 (by decide) ?_
      refine j_icmp_ge (tgt := 27) dX12_bringsBack_6 rfl (by first | omega | (split <;> omega)) (by first | omega | (split <;> omega)) (fun c_6 => by exact absurd c_6 (by omega)) (fun c_6 => ?_)
      refine j_aload_n dX12_bringsBack_9 rfl ?_
      refine r_getS dX12_bringsBack_10 flX12_13 (by first | assumption | exact hsh _ _ rfl) (fx_170_1 hfx) ?_
      refine j_iload_n dX12_bringsBack_13 rfl ?_
      refine j_aload_n dX12_bringsBack_14 rfl ?_
      refine r_getS dX12_bringsBack_15 flX12_23 (by first | assumption | exact hsh _ _ rfl) (fx_170_4 hfx) ?_
      refine j_iload_n dX12_bringsBack_18 rfl ?_
      refine r_ialoadE dX12_bringsBack_19 (by first | assumption | exact hsh _ _ rfl) (by first | omega | (split <;> omega)) (by first | omega | (split <;> omega)) q (fun b_19 => ?_)
      refine r_iastore dX12_bringsBack_20 (by first | assumption | exact hsh _ _ rfl) (by first | omega | (split <;> omega)) (by first | omega | (split <;> omega)) (by first | omega | (split <;> omega)) ?_
      refine j_iinc dX12_bringsBack_21 rfl (by decide) ?_
      refine j_goto (tgt := 2) dX12_bringsBack_24 rfl ?_
      exact ih (z + 1) _ (by omega) (by omega) (by rw [jup_at, h1, mCpy_s hz0]) (Fr1_up h2)
  refine j_iconst dX12_bringsBack_0 ?_
  refine j_istore_n dX12_bringsBack_1 (by decide) ?_
  exact key 420 0 I (by decide) (by decide) mCpy_0.symm (fun _ _ => rfl)
/-- the model's rows, as a day sees them -/
abbrev mX (I : Nat → Int → Int) : dX := (I 171, I 179, I 180, I 181)
abbrev DX (I J : Nat → Int → Int) (X : dX) : Prop := DS I J X.1 X.2.1 X.2.2.1 X.2.2.2
theorem sm_day1 (hsh : ShOK sh) (hfx : FxOK F) {calm : Int} (hc : calm = 0 ∨ calm = 1) {J : Nat → Int → Int} {X : dX} {k : Int} (hk : k ≤ 1000) (h9 : 0 ≤ w 9 ∧ w 9 ≤ 900000000) (hO : dOK w X k) (hD : DX I J X) : jS G (d + 7) mX12_oneDay [jR (some 170), jI calm] (sh, J, F) 0 0 (rEV sh F (fun K => DX I K (dStep calm X))) := by
  obtain ⟨h1, h2, h3, h4⟩ := hO
  have := sm_oneDay (G := G) (d := d) (I := J) hsh hfx hc (by rw [hD.1]; exact h1) (by rw [hD.1]; omega) (by rw [hD.1]; exact h3)
  rw [hD.1, hD.2.1, hD.2.2.1, hD.2.2.2.1] at this
  exact jS_mono this (fun o h ⟨K, k1, k2, k3⟩ => ⟨K, k1, k2, DS_tr hD k3⟩)
theorem sm_calmDays (hsh : ShOK sh) (hfx : FxOK F) {n : Int} (hn : 0 ≤ n ∧ n ≤ 60) (hW : WF (I 171)) (h9 : 0 ≤ I 171 9 ∧ I 171 9 ≤ 900000000) (h10 : 0 ≤ I 171 10 ∧ I 171 10 ≤ 60) : jS G (d + 8) mX12_calmDays [jR (some 170), jI n] (sh, I, F) 0 0 (rEV sh F (fun J => DX I J (mDays 1 (mX I) n.toNat))) := by
  refine jS_go [some (jR (some 170)), some (jI n), none] (by decide +kernel) rfl (by simp [jone]) (Nat.le_of_ble_eq_true rfl) rfl (fun hok => ?_)
  have key : ∀ (m : Nat) (z : Int) (J : Nat → Int → Int) (X : dX), z + m = n → 0 ≤ z → X = mDays 1 (mX I) z.toNat → dOK (I 171) X z → DX I J X → jW G mX12_calmDays (d + 8) (rEV sh F (fun J => DX I J (mDays 1 (mX I) n.toNat))) 2 [some (jR (some 170)), some (jI n), some (jI z)] [] (sh, J, F) 0 0 := by
    intro m
    induction m with
    | zero =>
      intro z J X hz hz0 hX hO hD
      refine j_iload_n dX12_calmDays_2 rfl ?_
      refine j_iload_n dX12_calmDays_3 rfl ?_
      refine j_icmp_ge (tgt := 18) dX12_calmDays_4 rfl (by first | omega | (split <;> omega)) (by first | omega | (split <;> omega)) (fun c_4 => ?_) (fun c_4 => by exact absurd (by omega) c_4)
      refine j_vret dX12_calmDays_18 rfl ?_
      exact rEV_of (by rw [show n = z by omega, ← hX]; exact hD)
    | succ m ih =>
      intro z J X hz hz0 hX hO hD
      refine j_iload_n dX12_calmDays_2 rfl ?_
      refine j_iload_n dX12_calmDays_3 rfl ?_
      refine j_icmp_ge (tgt := 18) dX12_calmDays_4 rfl (by first | omega | (split <;> omega)) (by first | omega | (split <;> omega)) (fun c_4 => by exact absurd c_4 (by omega)) (fun c_4 => ?_)
      refine j_aload_n dX12_calmDays_7 rfl ?_
      refine j_iconst dX12_calmDays_8 ?_
      refine r_cv1EV dX12_calmDays_9 cvX12_325 (by decide) (by first | assumption | exact hsh _ _ rfl) (Nat.le_of_ble_eq_true rfl) (Nat.le_of_eq (Nat.zero_add _)) (Nat.le_of_eq (Nat.zero_add _)) (sm_day1 hsh hfx (Or.inr rfl) (k := z) (by omega) h9 hO hD) (fun K hK => ?_)
      refine j_iinc dX12_calmDays_12 rfl (by decide) ?_
      refine j_goto (tgt := 2) dX12_calmDays_15 rfl ?_
      exact ih (z + 1) K _ (by omega) (by omega) (by rw [hX]; exact (mDays_s _ _ hz0).symm) (dOK_s hO h9.1) hK
  refine j_iconst dX12_calmDays_0 ?_
  refine j_istore_n dX12_calmDays_1 (by decide) ?_
  exact key n.toNat 0 I _ (by omega) (by omega) rfl (dOK_0 hW h10) DS_0
/-! ### the class -/
/-- what the class's course shows of the latest day -/
def CFt (w : Int → Int) (X : dX) (J : Nat → Int → Int) : Prop := ∀ q, 0 ≤ q → q < aPe w → J 164 q = X.2.2.2 q ∧ (aOf w q 3 = 0 → J 162 q = X.2.1 q ∧ J 163 q = X.2.2.1 q)
/-- but the draft and the course nothing has changed -/
abbrev FrG (I J : Nat → Int → Int) : Prop := ∀ a, (a < 12 ∨ 19 < a) → (a < 160 ∨ 165 < a) → J a = I a
theorem sc_day1 (hsh : ShOK sh) (hfx : FxOK F) (h12 : StAt sh F 12) {calm dr : Int} (hc : calm = 0 ∧ dr = 1 ∨ calm = 1 ∧ dr = 0) {J : Nat → Int → Int} {X : dX} {k : Int} (hO : dOK w X k) (hR : Rp J 12 X.1) (hL : LwR sh I F 12 w) (hfr : FrG I J) : jS G (d + 6) mX2_pass [jR (some 160), jR (some 12), jI dr] (sh, J, F) 0 0 (rEI (mOver X.1 (dStep calm X).2.2.2) sh F (fun K => Rp K 12 (dStep calm X).1 ∧ CFt w (dStep calm X) K ∧ FrG I K)) := by
  obtain ⟨h1, h2, h3, h4⟩ := hO
  have hL2 : LwR sh J F 12 X.1 := LwR_w (LwR_fr hL (fun a ha => hfr a (by omega) (by omega))) (h4 2 (by omega)) (fun k hk => h4 k (by omega))
  refine jS_mono (sc_pass (G := G) (d := d) (I := J) (a0 := X.2.1) (b0 := X.2.2.1) (f0 := X.2.2.2) hsh hfx h12 (by decide) hR hL2 h1 hc) (fun o h ⟨K, k1, k2, k3, k4, k5, k6⟩ => ⟨K, k1, k2, k3, fun q q0 q1 => ?_, fun a a0 a1 => ?_⟩)
  · have e0 : aPe X.1 = aPe w := h4 0 (by omega)
    have := k4 q q0 (by omega)
    have h8 := h1.1
    exact ⟨this.1, fun ha => this.2 (by rw [← ha]; exact h4 _ (Or.inr (Or.inr (Or.inr (Or.inr ⟨q, q0, Or.inr rfl, by omega⟩)))))⟩
  · rw [k6 a (by omega) (by omega) (by omega) a1]; exact hfr a a0 a1
theorem cs_goAhead (hsh : ShOK sh) (hfx : FxOK F) (h2 : StAt sh F 2) (h12 : StAt sh F 12) (hR : Rp I 2 w) (hL : LwR sh I F 2 w) (hW : WF w) (h9 : 0 ≤ w 9) (h10 : 0 ≤ w 10 ∧ w 10 ≤ 60) (a0 b0 f0 : Int → Int) {n : Int} (hn : 0 ≤ n ∧ n ≤ 60) : jS G (d + 7) mX11_goAhead [jR (some 0), jI n] (sh, I, F) 0 0 (rEV sh (jup F 12 18 (F 2 18)) (fun J => Rp J 12 (mDays 1 (w, a0, b0, f0) n.toNat).1 ∧ (1 ≤ n → CFt w (mDays 1 (w, a0, b0, f0) n.toNat) J) ∧ FrG I J)) := by
  have h17 : I 2 17 = 0 ∨ I 2 17 = 1 := by rw [hR.2.2.2.2.2.2.2.2.2.2.2.2.2]; exact hW.2.2.2.1
  have hL2 := LwR_tk (e := 12) hL
  have hfx2 := FxOK_F (e := 12) (r := F 2 18) hfx
  have h122 := StAt_F (e := 12) (r := F 2 18) h12
  refine jS_go [some (jR (some 0)), some (jI n), none] (by decide +kernel) rfl (by simp [jone]) (Nat.le_of_ble_eq_true rfl) rfl (fun hok => ?_)
  have key : ∀ (m : Nat) (z : Int) (J : Nat → Int → Int) (X : dX), z + m = n → 0 ≤ z → X = mDays 1 (w, a0, b0, f0) z.toNat → dOK w X z → Rp J 12 X.1 → (1 ≤ z → CFt w X J) → FrG I J → jW G mX11_goAhead (d + 7) (rEV sh (jup F 12 18 (F 2 18)) (fun J => Rp J 12 (mDays 1 (w, a0, b0, f0) n.toNat).1 ∧ (1 ≤ n → CFt w (mDays 1 (w, a0, b0, f0) n.toNat) J) ∧ FrG I J)) 13 [some (jR (some 0)), some (jI n), some (jI z)] [] (sh, J, jup F 12 18 (F 2 18)) 0 0 := by
    intro m
    induction m with
    | zero =>
      intro z J X hz hz0 hX hO hRJ hC hfr
      refine j_iload_n dX11_goAhead_13 rfl ?_
      refine j_iload_n dX11_goAhead_14 rfl ?_
      refine j_icmp_ge (tgt := 37) dX11_goAhead_15 rfl (by first | omega | (split <;> omega)) (by first | omega | (split <;> omega)) (fun c_15 => ?_) (fun c_15 => by exact absurd (by omega) c_15)
      refine j_vret dX11_goAhead_37 rfl ?_
      refine ⟨J, rfl, rfl, ?_⟩
      rw [show n = z by omega, ← hX]
      exact ⟨hRJ, hC, hfr⟩
    | succ m ih =>
      intro z J X hz hz0 hX hO hRJ hC hfr
      have hfx := hfx2
      refine j_iload_n dX11_goAhead_13 rfl ?_
      refine j_iload_n dX11_goAhead_14 rfl ?_
      refine j_icmp_ge (tgt := 37) dX11_goAhead_15 rfl (by first | omega | (split <;> omega)) (by first | omega | (split <;> omega)) (fun c_15 => by exact absurd c_15 (by omega)) (fun c_15 => ?_)
      refine j_aload_n dX11_goAhead_18 rfl ?_
      refine r_getS dX11_goAhead_19 flX11_54 (by first | assumption | exact hsh _ _ rfl) (fx_0_10 hfx) ?_
      refine j_aload_n dX11_goAhead_22 rfl ?_
      refine r_getS dX11_goAhead_23 flX11_24 (by first | assumption | exact hsh _ _ rfl) (fx_0_4 hfx) ?_
      refine j_iconst dX11_goAhead_26 ?_
      refine r_cv2EI dX11_goAhead_27 cvX11_233 (by decide) (by first | assumption | exact hsh _ _ rfl) (Nat.le_of_ble_eq_true rfl) (Nat.le_of_eq (Nat.zero_add _)) (Nat.le_of_eq (Nat.zero_add _)) (sc_day1 hsh hfx2 h122 (calm := 1) (Or.inr ⟨rfl, rfl⟩) hO hRJ hL2 hfr) (fun K hK => ?_)
      refine j_pop dX11_goAhead_30 trivial ?_
      refine j_iinc dX11_goAhead_31 rfl (by decide) ?_
      refine j_goto (tgt := 13) dX11_goAhead_34 rfl ?_
      exact ih (z + 1) K _ (by omega) (by omega) (by rw [hX]; exact (mDays_s _ _ hz0).symm) (dOK_s hO h9) hK.1 (fun _ => hK.2.1) hK.2.2
  refine j_aload_n dX11_goAhead_0 rfl ?_
  refine r_getS dX11_goAhead_1 flX11_24 (by first | assumption | exact hsh _ _ rfl) (fx_0_4 hfx) ?_
  refine j_aload_n dX11_goAhead_4 rfl ?_
  refine r_getS dX11_goAhead_5 flX11_20 (by first | assumption | exact hsh _ _ rfl) (fx_0_3 hfx) ?_
  refine r_cv1GV dX11_goAhead_8 cvX11_76 (by decide) (by first | assumption | exact hsh _ _ rfl) (Nat.le_of_ble_eq_true rfl) (Nat.le_of_eq (Nat.zero_add _)) (Nat.le_of_eq (Nat.zero_add _)) (sc_takeFrom h12 h2 (Or.inr (by decide)) h17) (fun J k3 => ?_)
  refine j_iconst dX11_goAhead_11 ?_
  refine j_istore_n dX11_goAhead_12 (by decide) ?_
  exact key n.toNat 0 J _ (by omega) (by omega) rfl (dOK_0 hW h10) (TkO_Rp k3 hR) (fun q => by omega) (fun a x0 x1 => k3.2.2.2.2 a (by omega))
theorem cs_feelToday (hsh : ShOK sh) (hfx : FxOK F) (h2 : StAt sh F 2) (h12 : StAt sh F 12) (hR : Rp I 2 w) (hL : LwR sh I F 2 w) (hW : WF w) (h9 : 0 ≤ w 9) (h10 : 0 ≤ w 10 ∧ w 10 ≤ 60) (a0 b0 f0 : Int → Int) : jS G (d + 8) mX11_goAhead [jR (some 0), jI 1] (sh, I, F) 0 0 (rEV sh (jup F 12 18 (F 2 18)) (fun J => CFt w (dStep 1 (w, a0, b0, f0)) J ∧ FrG I J)) :=
  jS_mono (cs_goAhead (d := d + 1) hsh hfx h2 h12 hR hL hW h9 h10 a0 b0 f0 (n := 1) (by decide)) (fun o h ⟨J, k1, k2, k9⟩ => ⟨J, k1, k2, k9.2.1 (by decide), k9.2.2⟩)
end
