/-! ACTS -/
abbrev rHV (sh : List (Nat × Nat)) (P : (Nat → Int → Int) → (Nat → Int → Option Nat) → Prop) : jzO → jzH → Prop := fun o h => ∃ I' F', o = .inl none ∧ h = (sh, I', F') ∧ P I' F'
abbrev rHI (r : Int) (sh : List (Nat × Nat)) (P : (Nat → Int → Int) → (Nat → Int → Option Nat) → Prop) : jzO → jzH → Prop := fun o h => ∃ I' F', o = .inl (some (jI r)) ∧ h = (sh, I', F') ∧ P I' F'
section Rows10
variable {G : jzG} {M : jzM} {d pc rc rs : Nat} {Q : jzO → jzH → Prop} {L : List (Option jzV)} {S : List jzV} {sh : List (Nat × Nat)} {I : Nat → Int → Int} {F : Nat → Int → Option Nat} {P : (Nat → Int → Int) → (Nat → Int → Option Nat) → Prop}
theorem r_cv0HI {r : Int} {M' : jzM} {idx i ci len mc' ms' rc' rs' : Nat} (hd : decode M.2.1 pc = .ok (.invokevirtual idx, 3)) (hw : jCV M.1.cls idx (jzCn ci) 0 M') (hc1 : ci < 10) (hi : sh[i]? = some (ci, len)) (h8 : (S.map jct).sum ≤ 8) (h9 : mc' + rc' ≤ rc) (h10 : ms' + rs' ≤ rs) (sp : jS G d M' (jR (some i) :: []) (sh, I, F) mc' ms' (rHI r sh P)) (k : ∀ I' F', P I' F' → jW G M (d + 1) Q (pc + 3) L (jI r :: S) (sh, I', F') rc' rs') : jW G M (d + 1) Q pc L (jR (some i) :: S) (sh, I, F) rc rs :=
  j_callV (As := []) hd hw hc1 hi rfl h8 h9 h10 (jS_mono sp (fun o h hq => by obtain ⟨I', F', rfl, rfl, hp⟩ := hq; exact k I' F' hp))
theorem r_cv0HV {M' : jzM} {idx i ci len mc' ms' rc' rs' : Nat} (hd : decode M.2.1 pc = .ok (.invokevirtual idx, 3)) (hw : jCV M.1.cls idx (jzCn ci) 0 M') (hc1 : ci < 10) (hi : sh[i]? = some (ci, len)) (h8 : (S.map jct).sum ≤ 8) (h9 : mc' + rc' ≤ rc) (h10 : ms' + rs' ≤ rs) (sp : jS G d M' (jR (some i) :: []) (sh, I, F) mc' ms' (rHV sh P)) (k : ∀ I' F', P I' F' → jW G M (d + 1) Q (pc + 3) L (S) (sh, I', F') rc' rs') : jW G M (d + 1) Q pc L (jR (some i) :: S) (sh, I, F) rc rs :=
  j_callV (As := []) hd hw hc1 hi rfl h8 h9 h10 (jS_mono sp (fun o h hq => by obtain ⟨I', F', rfl, rfl, hp⟩ := hq; exact k I' F' hp))
theorem r_cv1HI {v1 : jzV} {r : Int} {M' : jzM} {idx i ci len mc' ms' rc' rs' : Nat} (hd : decode M.2.1 pc = .ok (.invokevirtual idx, 3)) (hw : jCV M.1.cls idx (jzCn ci) 1 M') (hc1 : ci < 10) (hi : sh[i]? = some (ci, len)) (h8 : (S.map jct).sum ≤ 8) (h9 : mc' + rc' ≤ rc) (h10 : ms' + rs' ≤ rs) (sp : jS G d M' (jR (some i) :: [v1]) (sh, I, F) mc' ms' (rHI r sh P)) (k : ∀ I' F', P I' F' → jW G M (d + 1) Q (pc + 3) L (jI r :: S) (sh, I', F') rc' rs') : jW G M (d + 1) Q pc L (v1 :: jR (some i) :: S) (sh, I, F) rc rs :=
  j_callV (As := [v1]) hd hw hc1 hi rfl h8 h9 h10 (jS_mono sp (fun o h hq => by obtain ⟨I', F', rfl, rfl, hp⟩ := hq; exact k I' F' hp))
theorem r_cv1HV {v1 : jzV} {M' : jzM} {idx i ci len mc' ms' rc' rs' : Nat} (hd : decode M.2.1 pc = .ok (.invokevirtual idx, 3)) (hw : jCV M.1.cls idx (jzCn ci) 1 M') (hc1 : ci < 10) (hi : sh[i]? = some (ci, len)) (h8 : (S.map jct).sum ≤ 8) (h9 : mc' + rc' ≤ rc) (h10 : ms' + rs' ≤ rs) (sp : jS G d M' (jR (some i) :: [v1]) (sh, I, F) mc' ms' (rHV sh P)) (k : ∀ I' F', P I' F' → jW G M (d + 1) Q (pc + 3) L (S) (sh, I', F') rc' rs') : jW G M (d + 1) Q pc L (v1 :: jR (some i) :: S) (sh, I, F) rc rs :=
  j_callV (As := [v1]) hd hw hc1 hi rfl h8 h9 h10 (jS_mono sp (fun o h hq => by obtain ⟨I', F', rfl, rfl, hp⟩ := hq; exact k I' F' hp))
theorem r_cv2HI {v1 v2 : jzV} {r : Int} {M' : jzM} {idx i ci len mc' ms' rc' rs' : Nat} (hd : decode M.2.1 pc = .ok (.invokevirtual idx, 3)) (hw : jCV M.1.cls idx (jzCn ci) 2 M') (hc1 : ci < 10) (hi : sh[i]? = some (ci, len)) (h8 : (S.map jct).sum ≤ 8) (h9 : mc' + rc' ≤ rc) (h10 : ms' + rs' ≤ rs) (sp : jS G d M' (jR (some i) :: [v1, v2]) (sh, I, F) mc' ms' (rHI r sh P)) (k : ∀ I' F', P I' F' → jW G M (d + 1) Q (pc + 3) L (jI r :: S) (sh, I', F') rc' rs') : jW G M (d + 1) Q pc L (v2 :: v1 :: jR (some i) :: S) (sh, I, F) rc rs :=
  j_callV (As := [v1, v2]) hd hw hc1 hi rfl h8 h9 h10 (jS_mono sp (fun o h hq => by obtain ⟨I', F', rfl, rfl, hp⟩ := hq; exact k I' F' hp))
theorem r_cv2HV {v1 v2 : jzV} {M' : jzM} {idx i ci len mc' ms' rc' rs' : Nat} (hd : decode M.2.1 pc = .ok (.invokevirtual idx, 3)) (hw : jCV M.1.cls idx (jzCn ci) 2 M') (hc1 : ci < 10) (hi : sh[i]? = some (ci, len)) (h8 : (S.map jct).sum ≤ 8) (h9 : mc' + rc' ≤ rc) (h10 : ms' + rs' ≤ rs) (sp : jS G d M' (jR (some i) :: [v1, v2]) (sh, I, F) mc' ms' (rHV sh P)) (k : ∀ I' F', P I' F' → jW G M (d + 1) Q (pc + 3) L (S) (sh, I', F') rc' rs') : jW G M (d + 1) Q pc L (v2 :: v1 :: jR (some i) :: S) (sh, I, F) rc rs :=
  j_callV (As := [v1, v2]) hd hw hc1 hi rfl h8 h9 h10 (jS_mono sp (fun o h hq => by obtain ⟨I', F', rfl, rfl, hp⟩ := hq; exact k I' F' hp))
theorem r_cv3HI {v1 v2 v3 : jzV} {r : Int} {M' : jzM} {idx i ci len mc' ms' rc' rs' : Nat} (hd : decode M.2.1 pc = .ok (.invokevirtual idx, 3)) (hw : jCV M.1.cls idx (jzCn ci) 3 M') (hc1 : ci < 10) (hi : sh[i]? = some (ci, len)) (h8 : (S.map jct).sum ≤ 8) (h9 : mc' + rc' ≤ rc) (h10 : ms' + rs' ≤ rs) (sp : jS G d M' (jR (some i) :: [v1, v2, v3]) (sh, I, F) mc' ms' (rHI r sh P)) (k : ∀ I' F', P I' F' → jW G M (d + 1) Q (pc + 3) L (jI r :: S) (sh, I', F') rc' rs') : jW G M (d + 1) Q pc L (v3 :: v2 :: v1 :: jR (some i) :: S) (sh, I, F) rc rs :=
  j_callV (As := [v1, v2, v3]) hd hw hc1 hi rfl h8 h9 h10 (jS_mono sp (fun o h hq => by obtain ⟨I', F', rfl, rfl, hp⟩ := hq; exact k I' F' hp))
theorem r_cv3HV {v1 v2 v3 : jzV} {M' : jzM} {idx i ci len mc' ms' rc' rs' : Nat} (hd : decode M.2.1 pc = .ok (.invokevirtual idx, 3)) (hw : jCV M.1.cls idx (jzCn ci) 3 M') (hc1 : ci < 10) (hi : sh[i]? = some (ci, len)) (h8 : (S.map jct).sum ≤ 8) (h9 : mc' + rc' ≤ rc) (h10 : ms' + rs' ≤ rs) (sp : jS G d M' (jR (some i) :: [v1, v2, v3]) (sh, I, F) mc' ms' (rHV sh P)) (k : ∀ I' F', P I' F' → jW G M (d + 1) Q (pc + 3) L (S) (sh, I', F') rc' rs') : jW G M (d + 1) Q pc L (v3 :: v2 :: v1 :: jR (some i) :: S) (sh, I, F) rc rs :=
  j_callV (As := [v1, v2, v3]) hd hw hc1 hi rfl h8 h9 h10 (jS_mono sp (fun o h hq => by obtain ⟨I', F', rfl, rfl, hp⟩ := hq; exact k I' F' hp))
theorem r_cv4HI {v1 v2 v3 v4 : jzV} {r : Int} {M' : jzM} {idx i ci len mc' ms' rc' rs' : Nat} (hd : decode M.2.1 pc = .ok (.invokevirtual idx, 3)) (hw : jCV M.1.cls idx (jzCn ci) 4 M') (hc1 : ci < 10) (hi : sh[i]? = some (ci, len)) (h8 : (S.map jct).sum ≤ 8) (h9 : mc' + rc' ≤ rc) (h10 : ms' + rs' ≤ rs) (sp : jS G d M' (jR (some i) :: [v1, v2, v3, v4]) (sh, I, F) mc' ms' (rHI r sh P)) (k : ∀ I' F', P I' F' → jW G M (d + 1) Q (pc + 3) L (jI r :: S) (sh, I', F') rc' rs') : jW G M (d + 1) Q pc L (v4 :: v3 :: v2 :: v1 :: jR (some i) :: S) (sh, I, F) rc rs :=
  j_callV (As := [v1, v2, v3, v4]) hd hw hc1 hi rfl h8 h9 h10 (jS_mono sp (fun o h hq => by obtain ⟨I', F', rfl, rfl, hp⟩ := hq; exact k I' F' hp))
theorem r_cv4HV {v1 v2 v3 v4 : jzV} {M' : jzM} {idx i ci len mc' ms' rc' rs' : Nat} (hd : decode M.2.1 pc = .ok (.invokevirtual idx, 3)) (hw : jCV M.1.cls idx (jzCn ci) 4 M') (hc1 : ci < 10) (hi : sh[i]? = some (ci, len)) (h8 : (S.map jct).sum ≤ 8) (h9 : mc' + rc' ≤ rc) (h10 : ms' + rs' ≤ rs) (sp : jS G d M' (jR (some i) :: [v1, v2, v3, v4]) (sh, I, F) mc' ms' (rHV sh P)) (k : ∀ I' F', P I' F' → jW G M (d + 1) Q (pc + 3) L (S) (sh, I', F') rc' rs') : jW G M (d + 1) Q pc L (v4 :: v3 :: v2 :: v1 :: jR (some i) :: S) (sh, I, F) rc rs :=
  j_callV (As := [v1, v2, v3, v4]) hd hw hc1 hi rfl h8 h9 h10 (jS_mono sp (fun o h hq => by obtain ⟨I', F', rfl, rfl, hp⟩ := hq; exact k I' F' hp))
theorem r_cv5HI {v1 v2 v3 v4 v5 : jzV} {r : Int} {M' : jzM} {idx i ci len mc' ms' rc' rs' : Nat} (hd : decode M.2.1 pc = .ok (.invokevirtual idx, 3)) (hw : jCV M.1.cls idx (jzCn ci) 5 M') (hc1 : ci < 10) (hi : sh[i]? = some (ci, len)) (h8 : (S.map jct).sum ≤ 8) (h9 : mc' + rc' ≤ rc) (h10 : ms' + rs' ≤ rs) (sp : jS G d M' (jR (some i) :: [v1, v2, v3, v4, v5]) (sh, I, F) mc' ms' (rHI r sh P)) (k : ∀ I' F', P I' F' → jW G M (d + 1) Q (pc + 3) L (jI r :: S) (sh, I', F') rc' rs') : jW G M (d + 1) Q pc L (v5 :: v4 :: v3 :: v2 :: v1 :: jR (some i) :: S) (sh, I, F) rc rs :=
  j_callV (As := [v1, v2, v3, v4, v5]) hd hw hc1 hi rfl h8 h9 h10 (jS_mono sp (fun o h hq => by obtain ⟨I', F', rfl, rfl, hp⟩ := hq; exact k I' F' hp))
theorem r_cv5HV {v1 v2 v3 v4 v5 : jzV} {M' : jzM} {idx i ci len mc' ms' rc' rs' : Nat} (hd : decode M.2.1 pc = .ok (.invokevirtual idx, 3)) (hw : jCV M.1.cls idx (jzCn ci) 5 M') (hc1 : ci < 10) (hi : sh[i]? = some (ci, len)) (h8 : (S.map jct).sum ≤ 8) (h9 : mc' + rc' ≤ rc) (h10 : ms' + rs' ≤ rs) (sp : jS G d M' (jR (some i) :: [v1, v2, v3, v4, v5]) (sh, I, F) mc' ms' (rHV sh P)) (k : ∀ I' F', P I' F' → jW G M (d + 1) Q (pc + 3) L (S) (sh, I', F') rc' rs') : jW G M (d + 1) Q pc L (v5 :: v4 :: v3 :: v2 :: v1 :: jR (some i) :: S) (sh, I, F) rc rs :=
  j_callV (As := [v1, v2, v3, v4, v5]) hd hw hc1 hi rfl h8 h9 h10 (jS_mono sp (fun o h hq => by obtain ⟨I', F', rfl, rfl, hp⟩ := hq; exact k I' F' hp))
end Rows10
/-- what an act of the model leaves -/
def AcO (c : Int) (I M J : Nat → Int → Int) : Prop := J 170 0 = c ∧ MEq M J ∧ ∀ a, (a < 170 ∨ 183 < a) → J a = I a
theorem AcO_0 {I : Nat → Int → Int} {c : Int} : AcO c I I (jup I 170 0 c) := ⟨jup_same _ _ _ _, ⟨jup_ne _ _ _ (by decide), jup_ne _ _ _ (by decide), jup_ne _ _ _ (by decide), jup_ne _ _ _ (by decide), jup_row _ _ _ (by decide), jup_row _ _ _ (by decide), jup_row _ _ _ (by decide), jup_row _ _ _ (by decide)⟩, fun a ha => jup_ne _ _ _ (by omega)⟩
theorem AcO_T {I J : Nat → Int → Int} {c : Int} (h : FrT c I J) : AcO c I I J := ⟨h.1, ⟨h.2.1 171 (by decide) (by decide) (by decide) (by decide) (by decide) (by decide), h.2.1 172 (by decide) (by decide) (by decide) (by decide) (by decide) (by decide), h.2.1 175 (by decide) (by decide) (by decide) (by decide) (by decide) (by decide), h.2.1 176 (by decide) (by decide) (by decide) (by decide) (by decide) (by decide), h.2.2 6 (by decide) (by decide) (by decide), h.2.2 7 (by decide) (by decide) (by decide), h.2.2 9 (by decide) (by decide) (by decide), h.2.2 14 (by decide) (by decide) (by decide)⟩, fun a ha => h.2.1 a (by omega) (by omega) (by omega) (by omega) (by omega) (by omega)⟩
theorem Ac_of {I I1 J K : Nat → Int → Int} {w : Int → Int} (fr1 : ∀ a, a ≠ 170 → I1 a = I a) (fr1k : ∀ k, k ≠ 0 → I1 170 k = I 170 k) (fr1c : I1 170 0 = 0) (hJ : ReO I1 J (I 170 7)) (hK : ∀ a, a ≠ 171 → K a = J a) (hw : K 171 = w) : AcO 0 I (mzW (mzR I) w) K := by
  obtain ⟨h1, h2, h3, h4⟩ := hJ
  rw [fr1 175 (by decide), fr1 171 (by decide)] at h2
  refine ⟨by rw [hK 170 (by decide), h4 0 (by decide), fr1c], ⟨hw, ?_, ?_, ?_, ?_, ?_, ?_, ?_⟩, fun a ha => by rw [hK a (by omega), h3 a (by omega) (by omega), fr1 a (by omega)]⟩
  · rw [hK 172 (by decide), h3 172 (by decide) (by decide), fr1 172 (by decide)]; rfl
  · rw [hK 175 (by decide), h2]; rfl
  · rw [hK 176 (by decide), h3 176 (by decide) (by decide), fr1 176 (by decide)]; rfl
  · rw [hK 170 (by decide), h4 6 (by decide), fr1k 6 (by decide)]; exact (mzR_k (by decide)).symm
  · rw [hK 170 (by decide), h1]; rfl
  · rw [hK 170 (by decide), h4 9 (by decide), fr1k 9 (by decide)]; exact (mzR_k (by decide)).symm
  · rw [hK 170 (by decide), h4 14 (by decide), fr1k 14 (by decide)]; exact (mzR_k (by decide)).symm
/-- an act of the class -/
def CaO (sh : List (Nat × Nat)) (I M J : Nat → Int → Int) (F' : Nat → Int → Option Nat) : Prop := Pl sh F' ∧ CR sh J F' M ∧ ∀ a, (170 ≤ a ∨ a = 159) → J a = I a
theorem Ca_of {sh : List (Nat × Nat)} {I J K M : Nat → Int → Int} {F F1 : Nat → Int → Option Nat} {w : Int → Int} (h : Pl sh F1 ∧ CR sh J F1 (mzR M) ∧ (∀ a, a < 32 → J a = I a) ∧ (∀ a, 154 ≤ a → J a = I a) ∧ F1 2 18 = F 2 18) (hs : Sr sh K F1 2 w) (hf : ∀ a, (a < 2 ∨ 11 < a) → (a < 160 ∨ 165 < a) → K a = J a) (hw : ∀ k, k < 0 ∨ 420 ≤ k → w k = M 171 k) : CaO sh I (mzW (mzR M) w) K F1 := ⟨h.1, CR_now h.2.1 hs hf hw, fun a ha => (hf a (by omega) (by omega)).trans (h.2.2.2.1 a (by omega))⟩
/-- a state whose rows and fields but not its log have changed -/
theorem Sr_now {sh : List (Nat × Nat)} {I K : Nat → Int → Int} {F : Nat → Int → Option Nat} {s : Nat} {w v : Int → Int} (hs9 : s + 9 < 154) (h : Sr sh I F s w) (hR : Rp K s v) (h16 : K s 16 = I s 16) (hf : ∀ a, (a < s ∨ s + 7 < a) → (a < 160 ∨ 165 < a) → K a = I a) (hv : ∀ k, (k = 2 ∨ k = 9 ∨ k = 10 ∨ (180 ≤ k)) → v k = w k) : Sr sh K F s v :=
  ⟨hR, Lg_w (Lg_fr h.2.1 (hf _ (by omega) (by omega)) (hf _ (by omega) (by omega))) (fun k hk => hv k (by omega)), by rw [h16, hv 9 (by omega)]; exact h.2.2.1, LwR_w (LwR_fr h.2.2.2 (fun a ha => hf a (by omega) (by omega))) (hv 2 (by omega)) (fun k hk => hv k (by omega))⟩
abbrev wPut (w : Int → Int) (p n : Int) : Int → Int := wup w (12 + 13 * p + 1) (aOf w p 1 + n)
abbrev wDraw (w : Int → Int) (p n : Int) : Int → Int := wAF w p (aOf w p 1 - n) (aOf w p 2 - min n (aOf w p 2))
abbrev mMv (w : Int → Int) (p n : Int) : Int := max 0 (aOf w p 2 - (aOf w p 1 - n))
abbrev wCheq (w : Int → Int) (p q n : Int) : Int → Int := wup (wup (wup (wup w (12 + 13 * p + 1) (aOf w p 1 - n)) (12 + 13 * q + 1) (aOf w q 1 + n)) (12 + 13 * p + 2) (aOf w p 2 - mMv w p n)) (12 + 13 * q + 2) (aOf w q 2 + mMv w p n)
abbrev wOwe (w : Int → Int) (p q n : Int) : Int → Int := wup w (116 + 8 * p + q) (jwr (aOw w p q + n))
abbrev mHr (w : Int → Int) (p x : Int) : Int := jAnd (jAnd x (jShl 1 (aPe w) - 1)) (jXor (jShl 1 p) (-1))
abbrev wHear (w : Int → Int) (p x : Int) : Int → Int := wup w (12 + 13 * p + 5) (mHr w p x)
section
variable {G : jzG} {d : Nat} {sh : List (Nat × Nat)} {I : Nat → Int → Int} {F : Nat → Int → Option Nat} {w : Int → Int}
/-! ### the model -/
theorem mp_put_1 (hsh : ShOK sh) (hfx : FxOK F) (hW : WF (I 171)) (hr : 0 ≤ I 170 7 ∧ I 170 7 ≤ 12) {p n : Int} (j1 : jin p) (h2 : ¬ gP (I 171) p) : jS G (d + 6) mX12_put [jR (some 170), jI p, jI n] (sh, I, F) 0 0 (rI (0) (sh, jup I 170 0 1, F)) := by
  have hP : WfP (I 171) := hW.1
  have g8 : aPe (I 171) ≤ 8 := hP.2
  refine jS_go [some (jR (some 170)), some (jI p), some (jI n)] (by decide +kernel) rfl (by simp [jone]) (Nat.le_of_ble_eq_true rfl) rfl (fun hok => ?_)
  refine j_aload_n dX12_put_0 rfl ?_
  refine j_iconst dX12_put_1 ?_
  refine r_putI dX12_put_2 flX12_3 rfl (by first | assumption | exact hsh _ _ rfl) (by first | omega | (split <;> omega)) (fun q => by cases q) ?_
  skip
  have hok1 : jzok (sh, jup I 170 0 0, F) := jzok_I hok jin_lit0
  have hw0 : (jup I 170 0 0) 171 = I 171 := jup_ne _ _ _ (by decide)
  clear hok
  rw [← jup_up I 170 0 0 1]
  rw [← hw0] at hP h2
  try rw [← hw0]
  obtain ⟨I1, hI1⟩ : ∃ J, J = jup I 170 0 0 := ⟨_, rfl⟩
  rw [← hI1] at hok1 hw0 hP h2 ⊢
  have hok := hok1
  refine j_aload_n dX12_put_5 rfl ?_
  refine j_aload_n dX12_put_6 rfl ?_
  refine j_iload_n dX12_put_7 rfl ?_
  refine r_cv1I dX12_put_8 cvX12_335 (by decide) (by first | assumption | exact hsh _ _ rfl) (Nat.le_of_ble_eq_true rfl) (Nat.le_of_eq (Nat.zero_add _)) (Nat.le_of_eq (Nat.zero_add _)) (sm_noP1 hsh hfx hok (by omega) hP h2) ?_
  refine j_iconst dX12_put_11 ?_
  refine r_cv2I dX12_put_12 cvX12_253 (by decide) (by first | assumption | exact hsh _ _ rfl) (Nat.le_of_ble_eq_true rfl) (Nat.le_of_eq (Nat.zero_add _)) (Nat.le_of_eq (Nat.zero_add _)) (sm_thr1 hsh (by omega)) ?_
  refine j_if_ne (tgt := 83) dX12_put_15 rfl (by first | omega | (split <;> omega)) (fun c_15 => ?_) (fun c_15 => by exact absurd c_15 (by decide))
  refine j_iconst dX12_put_83 ?_
  refine j_iret dX12_put_84 rfl ?_
  exact rI_of rfl rfl
theorem mp_put_2 (hsh : ShOK sh) (hfx : FxOK F) (hW : WF (I 171)) (hr : 0 ≤ I 170 7 ∧ I 170 7 ≤ 12) {p n : Int} (h1 : gP (I 171) p) (jn : jin n) (h2 : ¬ ((1 ≤ n ∧ n ≤ 9999) ∧ aOf (I 171) p 1 + n ≤ 99999)) : jS G (d + 6) mX12_put [jR (some 170), jI p, jI n] (sh, I, F) 0 0 (rI (0) (sh, jup I 170 0 2, F)) := by
  have hP : WfP (I 171) := hW.1
  have g8 : aPe (I 171) ≤ 8 := hP.2
  have gp : 0 ≤ p ∧ p < 8 := by have := h1.1; have := h1.2; omega
  refine jS_go [some (jR (some 170)), some (jI p), some (jI n)] (by decide +kernel) rfl (by simp [jone]) (Nat.le_of_ble_eq_true rfl) rfl (fun hok => ?_)
  refine j_aload_n dX12_put_0 rfl ?_
  refine j_iconst dX12_put_1 ?_
  refine r_putI dX12_put_2 flX12_3 rfl (by first | assumption | exact hsh _ _ rfl) (by first | omega | (split <;> omega)) (fun q => by cases q) ?_
  skip
  have hok1 : jzok (sh, jup I 170 0 0, F) := jzok_I hok jin_lit0
  have hw0 : (jup I 170 0 0) 171 = I 171 := jup_ne _ _ _ (by decide)
  clear hok
  rw [← jup_up I 170 0 0 2]
  rw [← hw0] at hP h1 h2 hW
  try rw [← hw0]
  obtain ⟨I1, hI1⟩ : ∃ J, J = jup I 170 0 0 := ⟨_, rfl⟩
  rw [← hI1] at hok1 hw0 hP h1 h2 hW ⊢
  have hok := hok1
  have q1 := (hW.2.1.2.2 p gp.1 (by have := h1.2; omega)).2.1
  by_cases e : 1 ≤ n ∧ n ≤ 9999
  · have e2 : ¬ aOf (I1 171) p 1 + n ≤ 99999 := fun q => h2 ⟨e, q⟩
    refine j_aload_n dX12_put_5 rfl ?_
    refine j_aload_n dX12_put_6 rfl ?_
    refine j_iload_n dX12_put_7 rfl ?_
    refine r_cv1I dX12_put_8 cvX12_335 (by decide) (by first | assumption | exact hsh _ _ rfl) (Nat.le_of_ble_eq_true rfl) (Nat.le_of_eq (Nat.zero_add _)) (Nat.le_of_eq (Nat.zero_add _)) (sm_noP0 hsh hfx hok (by omega) hP h1) ?_
    refine j_iconst dX12_put_11 ?_
    refine r_cv2I dX12_put_12 cvX12_253 (by decide) (by first | assumption | exact hsh _ _ rfl) (Nat.le_of_ble_eq_true rfl) (Nat.le_of_eq (Nat.zero_add _)) (Nat.le_of_eq (Nat.zero_add _)) (sm_thr0 hsh) ?_
    refine j_if_ne (tgt := 83) dX12_put_15 rfl (by first | omega | (split <;> omega)) (fun c_15 => by exact absurd c_15 (by decide)) (fun c_15 => ?_)
    refine j_aload_n dX12_put_18 rfl ?_
    refine j_iload_n dX12_put_19 rfl ?_
    refine j_iconst dX12_put_20 ?_
    refine j_sipush dX12_put_21 (by decide) ?_
    refine r_cs3I dX12_put_24 csX12_78 (Nat.le_of_ble_eq_true rfl) (Nat.le_of_eq (Nat.zero_add _)) (Nat.le_of_eq (Nat.zero_add _)) (sm_in1 (by omega) (by omega) (by omega) e) ?_
    refine j_if_eq (tgt := 43) dX12_put_27 rfl (by first | omega | (split <;> omega)) (fun c_27 => by exact absurd c_27 (by decide)) (fun c_27 => ?_)
    refine j_aload_n dX12_put_30 rfl ?_
    refine j_iload_n dX12_put_31 rfl ?_
    refine j_iconst dX12_put_32 ?_
    refine r_cv2J dX12_put_33 cvX12_68 (by decide) (by first | assumption | exact hsh _ _ rfl) (Nat.le_of_ble_eq_true rfl) (Nat.le_of_eq (Nat.zero_add _)) (Nat.le_of_eq (Nat.zero_add _)) (sm_of hsh hfx (by omega)) (hok.2.1 171 _) (fun b_33 => ?_)
    refine j_iload_n dX12_put_36 rfl ?_
    refine j_iadd dX12_put_37 ?_
    refine j_ldc (n := 99999) dX12_put_38 kcX12_140 ?_
    refine j_icmp_le (tgt := 47) dX12_put_40 rfl (by first | omega | (split <;> omega)) (by first | omega | (split <;> omega)) (fun c_40 => by exact absurd c_40 e2) (fun c_40 => ?_)
    refine j_iconst dX12_put_43 ?_
    refine j_goto (tgt := 48) dX12_put_44 rfl ?_
    refine j_iconst dX12_put_48 ?_
    refine r_cv2I dX12_put_49 cvX12_253 (by decide) (by first | assumption | exact hsh _ _ rfl) (Nat.le_of_ble_eq_true rfl) (Nat.le_of_eq (Nat.zero_add _)) (Nat.le_of_eq (Nat.zero_add _)) (sm_thr1 hsh (by omega)) ?_
    refine j_if_ne (tgt := 83) dX12_put_52 rfl (by first | omega | (split <;> omega)) (fun c_52 => ?_) (fun c_52 => by exact absurd c_52 (by decide))
    refine j_iconst dX12_put_83 ?_
    refine j_iret dX12_put_84 rfl ?_
    exact rI_of rfl rfl
  · refine j_aload_n dX12_put_5 rfl ?_
    refine j_aload_n dX12_put_6 rfl ?_
    refine j_iload_n dX12_put_7 rfl ?_
    refine r_cv1I dX12_put_8 cvX12_335 (by decide) (by first | assumption | exact hsh _ _ rfl) (Nat.le_of_ble_eq_true rfl) (Nat.le_of_eq (Nat.zero_add _)) (Nat.le_of_eq (Nat.zero_add _)) (sm_noP0 hsh hfx hok (by omega) hP h1) ?_
    refine j_iconst dX12_put_11 ?_
    refine r_cv2I dX12_put_12 cvX12_253 (by decide) (by first | assumption | exact hsh _ _ rfl) (Nat.le_of_ble_eq_true rfl) (Nat.le_of_eq (Nat.zero_add _)) (Nat.le_of_eq (Nat.zero_add _)) (sm_thr0 hsh) ?_
    refine j_if_ne (tgt := 83) dX12_put_15 rfl (by first | omega | (split <;> omega)) (fun c_15 => by exact absurd c_15 (by decide)) (fun c_15 => ?_)
    refine j_aload_n dX12_put_18 rfl ?_
    refine j_iload_n dX12_put_19 rfl ?_
    refine j_iconst dX12_put_20 ?_
    refine j_sipush dX12_put_21 (by decide) ?_
    refine r_cs3I dX12_put_24 csX12_78 (Nat.le_of_ble_eq_true rfl) (Nat.le_of_eq (Nat.zero_add _)) (Nat.le_of_eq (Nat.zero_add _)) (sm_in0 (by omega) (by omega) (by omega) e) ?_
    refine j_if_eq (tgt := 43) dX12_put_27 rfl (by first | omega | (split <;> omega)) (fun c_27 => ?_) (fun c_27 => by exact absurd c_27 (by decide))
    refine j_iconst dX12_put_43 ?_
    refine j_goto (tgt := 48) dX12_put_44 rfl ?_
    refine j_iconst dX12_put_48 ?_
    refine r_cv2I dX12_put_49 cvX12_253 (by decide) (by first | assumption | exact hsh _ _ rfl) (Nat.le_of_ble_eq_true rfl) (Nat.le_of_eq (Nat.zero_add _)) (Nat.le_of_eq (Nat.zero_add _)) (sm_thr1 hsh (by omega)) ?_
    refine j_if_ne (tgt := 83) dX12_put_52 rfl (by first | omega | (split <;> omega)) (fun c_52 => ?_) (fun c_52 => by exact absurd c_52 (by decide))
    refine j_iconst dX12_put_83 ?_
    refine j_iret dX12_put_84 rfl ?_
    exact rI_of rfl rfl
theorem mp_put_3 (hsh : ShOK sh) (hfx : FxOK F) (hW : WF (I 171)) (hr : 0 ≤ I 170 7 ∧ I 170 7 ≤ 12) {p n : Int} (h1 : gP (I 171) p) (h2 : (1 ≤ n ∧ n ≤ 9999) ∧ aOf (I 171) p 1 + n ≤ 99999) (h3 : ¬ (aOf (I 171) p 3 = 0 ∧ ¬ I 171 8 = 1)) : jS G (d + 6) mX12_put [jR (some 170), jI p, jI n] (sh, I, F) 0 0 (rI (0) (sh, jup I 170 0 3, F)) := by
  have hP : WfP (I 171) := hW.1
  have g8 : aPe (I 171) ≤ 8 := hP.2
  have gp : 0 ≤ p ∧ p < 8 := by have := h1.1; have := h1.2; omega
  refine jS_go [some (jR (some 170)), some (jI p), some (jI n)] (by decide +kernel) rfl (by simp [jone]) (Nat.le_of_ble_eq_true rfl) rfl (fun hok => ?_)
  refine j_aload_n dX12_put_0 rfl ?_
  refine j_iconst dX12_put_1 ?_
  refine r_putI dX12_put_2 flX12_3 rfl (by first | assumption | exact hsh _ _ rfl) (by first | omega | (split <;> omega)) (fun q => by cases q) ?_
  skip
  have hok1 : jzok (sh, jup I 170 0 0, F) := jzok_I hok jin_lit0
  have hw0 : (jup I 170 0 0) 171 = I 171 := jup_ne _ _ _ (by decide)
  clear hok
  rw [← jup_up I 170 0 0 3]
  rw [← hw0] at hP h1 h2 h3 hW
  try rw [← hw0]
  obtain ⟨I1, hI1⟩ : ∃ J, J = jup I 170 0 0 := ⟨_, rfl⟩
  rw [← hI1] at hok1 hw0 hP h1 h2 h3 hW ⊢
  have hok := hok1
  have q1 := (hW.2.1.2.2 p gp.1 (by have := h1.2; omega)).2.1
  by_cases e : aOf (I1 171) p 3 = 0
  · have e2 : I1 171 8 = 1 := Classical.not_not.1 (fun q => h3 ⟨e, q⟩)
    refine j_aload_n dX12_put_5 rfl ?_
    refine j_aload_n dX12_put_6 rfl ?_
    refine j_iload_n dX12_put_7 rfl ?_
    refine r_cv1I dX12_put_8 cvX12_335 (by decide) (by first | assumption | exact hsh _ _ rfl) (Nat.le_of_ble_eq_true rfl) (Nat.le_of_eq (Nat.zero_add _)) (Nat.le_of_eq (Nat.zero_add _)) (sm_noP0 hsh hfx hok (by omega) hP h1) ?_
    refine j_iconst dX12_put_11 ?_
    refine r_cv2I dX12_put_12 cvX12_253 (by decide) (by first | assumption | exact hsh _ _ rfl) (Nat.le_of_ble_eq_true rfl) (Nat.le_of_eq (Nat.zero_add _)) (Nat.le_of_eq (Nat.zero_add _)) (sm_thr0 hsh) ?_
    refine j_if_ne (tgt := 83) dX12_put_15 rfl (by first | omega | (split <;> omega)) (fun c_15 => by exact absurd c_15 (by decide)) (fun c_15 => ?_)
    refine j_aload_n dX12_put_18 rfl ?_
    refine j_iload_n dX12_put_19 rfl ?_
    refine j_iconst dX12_put_20 ?_
    refine j_sipush dX12_put_21 (by decide) ?_
    refine r_cs3I dX12_put_24 csX12_78 (Nat.le_of_ble_eq_true rfl) (Nat.le_of_eq (Nat.zero_add _)) (Nat.le_of_eq (Nat.zero_add _)) (sm_in1 (by omega) (by omega) (by omega) h2.1) ?_
    refine j_if_eq (tgt := 43) dX12_put_27 rfl (by first | omega | (split <;> omega)) (fun c_27 => by exact absurd c_27 (by decide)) (fun c_27 => ?_)
    refine j_aload_n dX12_put_30 rfl ?_
    refine j_iload_n dX12_put_31 rfl ?_
    refine j_iconst dX12_put_32 ?_
    refine r_cv2J dX12_put_33 cvX12_68 (by decide) (by first | assumption | exact hsh _ _ rfl) (Nat.le_of_ble_eq_true rfl) (Nat.le_of_eq (Nat.zero_add _)) (Nat.le_of_eq (Nat.zero_add _)) (sm_of hsh hfx (by omega)) (hok.2.1 171 _) (fun b_33 => ?_)
    refine j_iload_n dX12_put_36 rfl ?_
    refine j_iadd dX12_put_37 ?_
    refine j_ldc (n := 99999) dX12_put_38 kcX12_140 ?_
    refine j_icmp_le (tgt := 47) dX12_put_40 rfl (by first | omega | (split <;> omega)) (by first | omega | (split <;> omega)) (fun c_40 => ?_) (fun c_40 => by exact absurd h2.2 c_40)
    refine j_iconst dX12_put_47 ?_
    refine j_iconst dX12_put_48 ?_
    refine r_cv2I dX12_put_49 cvX12_253 (by decide) (by first | assumption | exact hsh _ _ rfl) (Nat.le_of_ble_eq_true rfl) (Nat.le_of_eq (Nat.zero_add _)) (Nat.le_of_eq (Nat.zero_add _)) (sm_thr0 hsh) ?_
    refine j_if_ne (tgt := 83) dX12_put_52 rfl (by first | omega | (split <;> omega)) (fun c_52 => by exact absurd c_52 (by decide)) (fun c_52 => ?_)
    refine j_aload_n dX12_put_55 rfl ?_
    refine j_aload_n dX12_put_56 rfl ?_
    refine j_iload_n dX12_put_57 rfl ?_
    refine r_cv1I dX12_put_58 cvX12_296 (by decide) (by first | assumption | exact hsh _ _ rfl) (Nat.le_of_ble_eq_true rfl) (Nat.le_of_eq (Nat.zero_add _)) (Nat.le_of_eq (Nat.zero_add _)) (sm_al1 hsh hfx (by omega) e) ?_
    refine j_if_eq (tgt := 71) dX12_put_61 rfl (by first | omega | (split <;> omega)) (fun c_61 => by exact absurd c_61 (by decide)) (fun c_61 => ?_)
    refine j_aload_n dX12_put_64 rfl ?_
    refine r_cv0I dX12_put_65 cvX12_268 (by decide) (by first | assumption | exact hsh _ _ rfl) (Nat.le_of_ble_eq_true rfl) (Nat.le_of_eq (Nat.zero_add _)) (Nat.le_of_eq (Nat.zero_add _)) (sm_fl1 hsh hfx e2) ?_
    refine j_if_eq (tgt := 75) dX12_put_68 rfl (by first | omega | (split <;> omega)) (fun c_68 => by exact absurd c_68 (by decide)) (fun c_68 => ?_)
    refine j_iconst dX12_put_71 ?_
    refine j_goto (tgt := 76) dX12_put_72 rfl ?_
    refine j_iconst dX12_put_76 ?_
    refine r_cv2I dX12_put_77 cvX12_253 (by decide) (by first | assumption | exact hsh _ _ rfl) (Nat.le_of_ble_eq_true rfl) (Nat.le_of_eq (Nat.zero_add _)) (Nat.le_of_eq (Nat.zero_add _)) (sm_thr1 hsh (by omega)) ?_
    refine j_if_eq (tgt := 85) dX12_put_80 rfl (by first | omega | (split <;> omega)) (fun c_80 => by exact absurd c_80 (by decide)) (fun c_80 => ?_)
    refine j_iconst dX12_put_83 ?_
    refine j_iret dX12_put_84 rfl ?_
    exact rI_of rfl rfl
  · refine j_aload_n dX12_put_5 rfl ?_
    refine j_aload_n dX12_put_6 rfl ?_
    refine j_iload_n dX12_put_7 rfl ?_
    refine r_cv1I dX12_put_8 cvX12_335 (by decide) (by first | assumption | exact hsh _ _ rfl) (Nat.le_of_ble_eq_true rfl) (Nat.le_of_eq (Nat.zero_add _)) (Nat.le_of_eq (Nat.zero_add _)) (sm_noP0 hsh hfx hok (by omega) hP h1) ?_
    refine j_iconst dX12_put_11 ?_
    refine r_cv2I dX12_put_12 cvX12_253 (by decide) (by first | assumption | exact hsh _ _ rfl) (Nat.le_of_ble_eq_true rfl) (Nat.le_of_eq (Nat.zero_add _)) (Nat.le_of_eq (Nat.zero_add _)) (sm_thr0 hsh) ?_
    refine j_if_ne (tgt := 83) dX12_put_15 rfl (by first | omega | (split <;> omega)) (fun c_15 => by exact absurd c_15 (by decide)) (fun c_15 => ?_)
    refine j_aload_n dX12_put_18 rfl ?_
    refine j_iload_n dX12_put_19 rfl ?_
    refine j_iconst dX12_put_20 ?_
    refine j_sipush dX12_put_21 (by decide) ?_
    refine r_cs3I dX12_put_24 csX12_78 (Nat.le_of_ble_eq_true rfl) (Nat.le_of_eq (Nat.zero_add _)) (Nat.le_of_eq (Nat.zero_add _)) (sm_in1 (by omega) (by omega) (by omega) h2.1) ?_
    refine j_if_eq (tgt := 43) dX12_put_27 rfl (by first | omega | (split <;> omega)) (fun c_27 => by exact absurd c_27 (by decide)) (fun c_27 => ?_)
    refine j_aload_n dX12_put_30 rfl ?_
    refine j_iload_n dX12_put_31 rfl ?_
    refine j_iconst dX12_put_32 ?_
    refine r_cv2J dX12_put_33 cvX12_68 (by decide) (by first | assumption | exact hsh _ _ rfl) (Nat.le_of_ble_eq_true rfl) (Nat.le_of_eq (Nat.zero_add _)) (Nat.le_of_eq (Nat.zero_add _)) (sm_of hsh hfx (by omega)) (hok.2.1 171 _) (fun b_33 => ?_)
    refine j_iload_n dX12_put_36 rfl ?_
    refine j_iadd dX12_put_37 ?_
    refine j_ldc (n := 99999) dX12_put_38 kcX12_140 ?_
    refine j_icmp_le (tgt := 47) dX12_put_40 rfl (by first | omega | (split <;> omega)) (by first | omega | (split <;> omega)) (fun c_40 => ?_) (fun c_40 => by exact absurd h2.2 c_40)
    refine j_iconst dX12_put_47 ?_
    refine j_iconst dX12_put_48 ?_
    refine r_cv2I dX12_put_49 cvX12_253 (by decide) (by first | assumption | exact hsh _ _ rfl) (Nat.le_of_ble_eq_true rfl) (Nat.le_of_eq (Nat.zero_add _)) (Nat.le_of_eq (Nat.zero_add _)) (sm_thr0 hsh) ?_
    refine j_if_ne (tgt := 83) dX12_put_52 rfl (by first | omega | (split <;> omega)) (fun c_52 => by exact absurd c_52 (by decide)) (fun c_52 => ?_)
    refine j_aload_n dX12_put_55 rfl ?_
    refine j_aload_n dX12_put_56 rfl ?_
    refine j_iload_n dX12_put_57 rfl ?_
    refine r_cv1I dX12_put_58 cvX12_296 (by decide) (by first | assumption | exact hsh _ _ rfl) (Nat.le_of_ble_eq_true rfl) (Nat.le_of_eq (Nat.zero_add _)) (Nat.le_of_eq (Nat.zero_add _)) (sm_al0 hsh hfx (by omega) e) ?_
    refine j_if_eq (tgt := 71) dX12_put_61 rfl (by first | omega | (split <;> omega)) (fun c_61 => ?_) (fun c_61 => by exact absurd c_61 (by decide))
    refine j_iconst dX12_put_71 ?_
    refine j_goto (tgt := 76) dX12_put_72 rfl ?_
    refine j_iconst dX12_put_76 ?_
    refine r_cv2I dX12_put_77 cvX12_253 (by decide) (by first | assumption | exact hsh _ _ rfl) (Nat.le_of_ble_eq_true rfl) (Nat.le_of_eq (Nat.zero_add _)) (Nat.le_of_eq (Nat.zero_add _)) (sm_thr1 hsh (by omega)) ?_
    refine j_if_eq (tgt := 85) dX12_put_80 rfl (by first | omega | (split <;> omega)) (fun c_80 => by exact absurd c_80 (by decide)) (fun c_80 => ?_)
    refine j_iconst dX12_put_83 ?_
    refine j_iret dX12_put_84 rfl ?_
    exact rI_of rfl rfl
theorem mp_put_0 (hsh : ShOK sh) (hfx : FxOK F) (hW : WF (I 171)) (hr : 0 ≤ I 170 7 ∧ I 170 7 ≤ 12) {p n : Int} (h1 : gP (I 171) p) (h2 : (1 ≤ n ∧ n ≤ 9999) ∧ aOf (I 171) p 1 + n ≤ 99999) (h3 : aOf (I 171) p 3 = 0 ∧ ¬ I 171 8 = 1) : jS G (d + 6) mX12_put [jR (some 170), jI p, jI n] (sh, I, F) 0 0 (rEI (aOf (I 171) p 1 + n) sh F (AcO 0 I (mzW (mzR I) (wPut (I 171) p n)))) := by
  have hP : WfP (I 171) := hW.1
  have g8 : aPe (I 171) ≤ 8 := hP.2
  have gp : 0 ≤ p ∧ p < 8 := by have := h1.1; have := h1.2; omega
  have q1 := (hW.2.1.2.2 p gp.1 (by have := h1.2; omega)).2.1
  have q1o := q1
  have h2o := h2
  refine jS_go [some (jR (some 170)), some (jI p), some (jI n)] (by decide +kernel) rfl (by simp [jone]) (Nat.le_of_ble_eq_true rfl) rfl (fun hok => ?_)
  refine j_aload_n dX12_put_0 rfl ?_
  refine j_iconst dX12_put_1 ?_
  refine r_putI dX12_put_2 flX12_3 rfl (by first | assumption | exact hsh _ _ rfl) (by first | omega | (split <;> omega)) (fun q => by cases q) ?_
  skip
  have hok1 : jzok (sh, jup I 170 0 0, F) := jzok_I hok jin_lit0
  obtain ⟨I1, hI1⟩ : ∃ J, J = jup I 170 0 0 := ⟨_, rfl⟩
  rw [← hI1] at hok1 ⊢
  have hok0 := hok
  clear hok
  have hok := hok1
  have fr1 : ∀ a, a ≠ 170 → I1 a = I a := fun a ha => by rw [hI1, jup_ne _ _ _ ha]
  have fr1k : ∀ k, k ≠ 0 → I1 170 k = I 170 k := fun k hk => by rw [hI1, jup_row _ _ _ hk]
  have fr1c : I1 170 0 = 0 := by rw [hI1, jup_same]
  have hw0 : I1 171 = I 171 := fr1 171 (by decide)
  rw [← hw0] at hP h1 h2 h3 q1
  have hr7 : I1 170 7 = I 170 7 := fr1k 7 (by decide)
  have eA : ∀ J : Nat → Int → Int, J 171 = I 171 → J 171 (12 + 13 * p + 1) = aOf (I 171) p 1 := fun J h => by rw [h]
  refine j_aload_n dX12_put_5 rfl ?_
  refine j_aload_n dX12_put_6 rfl ?_
  refine j_iload_n dX12_put_7 rfl ?_
  refine r_cv1I dX12_put_8 cvX12_335 (by decide) (by first | assumption | exact hsh _ _ rfl) (Nat.le_of_ble_eq_true rfl) (Nat.le_of_eq (Nat.zero_add _)) (Nat.le_of_eq (Nat.zero_add _)) (sm_noP0 hsh hfx hok (by omega) hP h1) ?_
  refine j_iconst dX12_put_11 ?_
  refine r_cv2I dX12_put_12 cvX12_253 (by decide) (by first | assumption | exact hsh _ _ rfl) (Nat.le_of_ble_eq_true rfl) (Nat.le_of_eq (Nat.zero_add _)) (Nat.le_of_eq (Nat.zero_add _)) (sm_thr0 hsh) ?_
  refine j_if_ne (tgt := 83) dX12_put_15 rfl (by first | omega | (split <;> omega)) (fun c_15 => by exact absurd c_15 (by decide)) (fun c_15 => ?_)
  refine j_aload_n dX12_put_18 rfl ?_
  refine j_iload_n dX12_put_19 rfl ?_
  refine j_iconst dX12_put_20 ?_
  refine j_sipush dX12_put_21 (by decide) ?_
  refine r_cs3I dX12_put_24 csX12_78 (Nat.le_of_ble_eq_true rfl) (Nat.le_of_eq (Nat.zero_add _)) (Nat.le_of_eq (Nat.zero_add _)) (sm_in1 (by omega) (by omega) (by omega) h2.1) ?_
  refine j_if_eq (tgt := 43) dX12_put_27 rfl (by first | omega | (split <;> omega)) (fun c_27 => by exact absurd c_27 (by decide)) (fun c_27 => ?_)
  refine j_aload_n dX12_put_30 rfl ?_
  refine j_iload_n dX12_put_31 rfl ?_
  refine j_iconst dX12_put_32 ?_
  refine r_cv2J dX12_put_33 cvX12_68 (by decide) (by first | assumption | exact hsh _ _ rfl) (Nat.le_of_ble_eq_true rfl) (Nat.le_of_eq (Nat.zero_add _)) (Nat.le_of_eq (Nat.zero_add _)) (sm_of hsh hfx (by omega)) (hok.2.1 171 _) (fun b_33 => ?_)
  refine j_iload_n dX12_put_36 rfl ?_
  refine j_iadd dX12_put_37 ?_
  refine j_ldc (n := 99999) dX12_put_38 kcX12_140 ?_
  refine j_icmp_le (tgt := 47) dX12_put_40 rfl (by first | omega | (split <;> omega)) (by first | omega | (split <;> omega)) (fun c_40 => ?_) (fun c_40 => by exact absurd h2.2 c_40)
  refine j_iconst dX12_put_47 ?_
  refine j_iconst dX12_put_48 ?_
  refine r_cv2I dX12_put_49 cvX12_253 (by decide) (by first | assumption | exact hsh _ _ rfl) (Nat.le_of_ble_eq_true rfl) (Nat.le_of_eq (Nat.zero_add _)) (Nat.le_of_eq (Nat.zero_add _)) (sm_thr0 hsh) ?_
  refine j_if_ne (tgt := 83) dX12_put_52 rfl (by first | omega | (split <;> omega)) (fun c_52 => by exact absurd c_52 (by decide)) (fun c_52 => ?_)
  refine j_aload_n dX12_put_55 rfl ?_
  refine j_aload_n dX12_put_56 rfl ?_
  refine j_iload_n dX12_put_57 rfl ?_
  refine r_cv1I dX12_put_58 cvX12_296 (by decide) (by first | assumption | exact hsh _ _ rfl) (Nat.le_of_ble_eq_true rfl) (Nat.le_of_eq (Nat.zero_add _)) (Nat.le_of_eq (Nat.zero_add _)) (sm_al1 hsh hfx (by omega) h3.1) ?_
  refine j_if_eq (tgt := 71) dX12_put_61 rfl (by first | omega | (split <;> omega)) (fun c_61 => by exact absurd c_61 (by decide)) (fun c_61 => ?_)
  refine j_aload_n dX12_put_64 rfl ?_
  refine r_cv0I dX12_put_65 cvX12_268 (by decide) (by first | assumption | exact hsh _ _ rfl) (Nat.le_of_ble_eq_true rfl) (Nat.le_of_eq (Nat.zero_add _)) (Nat.le_of_eq (Nat.zero_add _)) (sm_fl0 hsh hfx h3.2) ?_
  refine j_if_eq (tgt := 75) dX12_put_68 rfl (by first | omega | (split <;> omega)) (fun c_68 => ?_) (fun c_68 => by exact absurd c_68 (by decide))
  refine j_iconst dX12_put_75 ?_
  refine j_iconst dX12_put_76 ?_
  refine r_cv2I dX12_put_77 cvX12_253 (by decide) (by first | assumption | exact hsh _ _ rfl) (Nat.le_of_ble_eq_true rfl) (Nat.le_of_eq (Nat.zero_add _)) (Nat.le_of_eq (Nat.zero_add _)) (sm_thr0 hsh) ?_
  refine j_if_eq (tgt := 85) dX12_put_80 rfl (by first | omega | (split <;> omega)) (fun c_80 => ?_) (fun c_80 => by exact absurd c_80 (by decide))
  refine j_aload_n dX12_put_85 rfl ?_
  refine r_cv0EV dX12_put_86 cvX12_356 (by decide) (by first | assumption | exact hsh _ _ rfl) (Nat.le_of_ble_eq_true rfl) (Nat.le_of_eq (Nat.zero_add _)) (Nat.le_of_eq (Nat.zero_add _)) (sm_remembers hsh hfx hr7 hr) (fun J hJ => ?_)
  have eJ : J 171 = I 171 := (hJ.2.2.1 171 (by decide) (by decide)).trans (fr1 171 (by decide))
  clear hok
  refine jW_ok (fun hok => ?_)
  refine j_aload_n dX12_put_89 rfl ?_
  refine r_getS dX12_put_90 flX12_13 (by first | assumption | exact hsh _ _ rfl) (fx_170_1 hfx) ?_
  refine j_iload_n dX12_put_93 rfl ?_
  refine j_iconst dX12_put_94 ?_
  refine r_cs2I dX12_put_95 csX12_64 (Nat.le_of_ble_eq_true rfl) (Nat.le_of_eq (Nat.zero_add _)) (Nat.le_of_eq (Nat.zero_add _)) (sm_at) ?_
  refine j_dup2 dX12_put_98 trivial trivial ?_
  refine r_ialoadE dX12_put_99 (by first | assumption | exact hsh _ _ rfl) (by first | omega | (split <;> omega)) (by first | omega | (split <;> omega)) (eA J eJ) (fun b_99 => ?_)
  refine j_iload_n dX12_put_100 rfl ?_
  refine j_iadd dX12_put_101 ?_
  refine r_iastore dX12_put_102 (by first | assumption | exact hsh _ _ rfl) (by first | omega | (split <;> omega)) (by first | omega | (split <;> omega)) (by first | omega | (split <;> omega)) ?_
  obtain ⟨K, hK⟩ : ∃ K, K = jup J 171 (12 + 13 * p + 1) (aOf (I 171) p 1 + n) := ⟨_, rfl⟩
  rw [← hK]
  have eK : K 171 = wPut (I 171) p n := by rw [hK, jup_at, eJ]
  have eK2 : aOf (K 171) p 1 = aOf (I 171) p 1 + n := by rw [eK]; exact wup_same _ _ _
  refine j_aload_n dX12_put_103 rfl ?_
  refine j_iload_n dX12_put_104 rfl ?_
  refine j_iconst dX12_put_105 ?_
  refine r_cv2I dX12_put_106 cvX12_68 (by decide) (by first | assumption | exact hsh _ _ rfl) (Nat.le_of_ble_eq_true rfl) (Nat.le_of_eq (Nat.zero_add _)) (Nat.le_of_eq (Nat.zero_add _)) (sm_of hsh hfx (by omega)) ?_
  rw [eK2]
  refine j_iret dX12_put_109 rfl ?_
  exact rEI_of rfl (Ac_of fr1 fr1k fr1c hJ (fun a ha => by rw [hK, jup_ne _ _ _ ha]) eK)
theorem mp_draw_1 (hsh : ShOK sh) (hfx : FxOK F) (hW : WF (I 171)) (hr : 0 ≤ I 170 7 ∧ I 170 7 ≤ 12) {p n : Int} (j1 : jin p) (h2 : ¬ gP (I 171) p) : jS G (d + 6) mX12_draw [jR (some 170), jI p, jI n] (sh, I, F) 0 0 (rI (0) (sh, jup I 170 0 1, F)) := by
  have hP : WfP (I 171) := hW.1
  have g8 : aPe (I 171) ≤ 8 := hP.2
  refine jS_go [some (jR (some 170)), some (jI p), some (jI n)] (by decide +kernel) rfl (by simp [jone]) (Nat.le_of_ble_eq_true rfl) rfl (fun hok => ?_)
  refine j_aload_n dX12_draw_0 rfl ?_
  refine j_iconst dX12_draw_1 ?_
  refine r_putI dX12_draw_2 flX12_3 rfl (by first | assumption | exact hsh _ _ rfl) (by first | omega | (split <;> omega)) (fun q => by cases q) ?_
  skip
  have hok1 : jzok (sh, jup I 170 0 0, F) := jzok_I hok jin_lit0
  have hw0 : (jup I 170 0 0) 171 = I 171 := jup_ne _ _ _ (by decide)
  clear hok
  rw [← jup_up I 170 0 0 1]
  rw [← hw0] at hP h2
  try rw [← hw0]
  obtain ⟨I1, hI1⟩ : ∃ J, J = jup I 170 0 0 := ⟨_, rfl⟩
  rw [← hI1] at hok1 hw0 hP h2 ⊢
  have hok := hok1
  refine j_aload_n dX12_draw_5 rfl ?_
  refine j_aload_n dX12_draw_6 rfl ?_
  refine j_iload_n dX12_draw_7 rfl ?_
  refine r_cv1I dX12_draw_8 cvX12_335 (by decide) (by first | assumption | exact hsh _ _ rfl) (Nat.le_of_ble_eq_true rfl) (Nat.le_of_eq (Nat.zero_add _)) (Nat.le_of_eq (Nat.zero_add _)) (sm_noP1 hsh hfx hok (by omega) hP h2) ?_
  refine j_iconst dX12_draw_11 ?_
  refine r_cv2I dX12_draw_12 cvX12_253 (by decide) (by first | assumption | exact hsh _ _ rfl) (Nat.le_of_ble_eq_true rfl) (Nat.le_of_eq (Nat.zero_add _)) (Nat.le_of_eq (Nat.zero_add _)) (sm_thr1 hsh (by omega)) ?_
  refine j_if_ne (tgt := 73) dX12_draw_15 rfl (by first | omega | (split <;> omega)) (fun c_15 => ?_) (fun c_15 => by exact absurd c_15 (by decide))
  refine j_iconst dX12_draw_73 ?_
  refine j_iret dX12_draw_74 rfl ?_
  exact rI_of rfl rfl
theorem mp_draw_2 (hsh : ShOK sh) (hfx : FxOK F) (hW : WF (I 171)) (hr : 0 ≤ I 170 7 ∧ I 170 7 ≤ 12) {p n : Int} (h1 : gP (I 171) p) (jn : jin n) (h2 : ¬ (1 ≤ n ∧ n ≤ aOf (I 171) p 1)) : jS G (d + 6) mX12_draw [jR (some 170), jI p, jI n] (sh, I, F) 0 0 (rI (0) (sh, jup I 170 0 2, F)) := by
  have hP : WfP (I 171) := hW.1
  have g8 : aPe (I 171) ≤ 8 := hP.2
  have gp : 0 ≤ p ∧ p < 8 := by have := h1.1; have := h1.2; omega
  refine jS_go [some (jR (some 170)), some (jI p), some (jI n)] (by decide +kernel) rfl (by simp [jone]) (Nat.le_of_ble_eq_true rfl) rfl (fun hok => ?_)
  refine j_aload_n dX12_draw_0 rfl ?_
  refine j_iconst dX12_draw_1 ?_
  refine r_putI dX12_draw_2 flX12_3 rfl (by first | assumption | exact hsh _ _ rfl) (by first | omega | (split <;> omega)) (fun q => by cases q) ?_
  skip
  have hok1 : jzok (sh, jup I 170 0 0, F) := jzok_I hok jin_lit0
  have hw0 : (jup I 170 0 0) 171 = I 171 := jup_ne _ _ _ (by decide)
  clear hok
  rw [← jup_up I 170 0 0 2]
  rw [← hw0] at hP h1 h2 hW
  try rw [← hw0]
  obtain ⟨I1, hI1⟩ : ∃ J, J = jup I 170 0 0 := ⟨_, rfl⟩
  rw [← hI1] at hok1 hw0 hP h1 h2 hW ⊢
  have hok := hok1
  have q1 := (hW.2.1.2.2 p gp.1 (by have := h1.2; omega)).2.1
  refine j_aload_n dX12_draw_5 rfl ?_
  refine j_aload_n dX12_draw_6 rfl ?_
  refine j_iload_n dX12_draw_7 rfl ?_
  refine r_cv1I dX12_draw_8 cvX12_335 (by decide) (by first | assumption | exact hsh _ _ rfl) (Nat.le_of_ble_eq_true rfl) (Nat.le_of_eq (Nat.zero_add _)) (Nat.le_of_eq (Nat.zero_add _)) (sm_noP0 hsh hfx hok (by omega) hP h1) ?_
  refine j_iconst dX12_draw_11 ?_
  refine r_cv2I dX12_draw_12 cvX12_253 (by decide) (by first | assumption | exact hsh _ _ rfl) (Nat.le_of_ble_eq_true rfl) (Nat.le_of_eq (Nat.zero_add _)) (Nat.le_of_eq (Nat.zero_add _)) (sm_thr0 hsh) ?_
  refine j_if_ne (tgt := 73) dX12_draw_15 rfl (by first | omega | (split <;> omega)) (fun c_15 => by exact absurd c_15 (by decide)) (fun c_15 => ?_)
  refine j_aload_n dX12_draw_18 rfl ?_
  refine j_iload_n dX12_draw_19 rfl ?_
  refine j_iconst dX12_draw_20 ?_
  refine j_aload_n dX12_draw_21 rfl ?_
  refine j_iload_n dX12_draw_22 rfl ?_
  refine j_iconst dX12_draw_23 ?_
  refine r_cv2J dX12_draw_24 cvX12_68 (by decide) (by first | assumption | exact hsh _ _ rfl) (Nat.le_of_ble_eq_true rfl) (Nat.le_of_eq (Nat.zero_add _)) (Nat.le_of_eq (Nat.zero_add _)) (sm_of hsh hfx (by omega)) (hok.2.1 171 _) (fun b_24 => ?_)
  refine r_cs3I dX12_draw_27 csX12_78 (Nat.le_of_ble_eq_true rfl) (Nat.le_of_eq (Nat.zero_add _)) (Nat.le_of_eq (Nat.zero_add _)) (sm_in0 (by omega) (by omega) (by omega) h2) ?_
  refine j_if_ne (tgt := 37) dX12_draw_30 rfl (by first | omega | (split <;> omega)) (fun c_30 => by exact absurd c_30 (by decide)) (fun c_30 => ?_)
  refine j_iconst dX12_draw_33 ?_
  refine j_goto (tgt := 38) dX12_draw_34 rfl ?_
  refine j_iconst dX12_draw_38 ?_
  refine r_cv2I dX12_draw_39 cvX12_253 (by decide) (by first | assumption | exact hsh _ _ rfl) (Nat.le_of_ble_eq_true rfl) (Nat.le_of_eq (Nat.zero_add _)) (Nat.le_of_eq (Nat.zero_add _)) (sm_thr1 hsh (by omega)) ?_
  refine j_if_ne (tgt := 73) dX12_draw_42 rfl (by first | omega | (split <;> omega)) (fun c_42 => ?_) (fun c_42 => by exact absurd c_42 (by decide))
  refine j_iconst dX12_draw_73 ?_
  refine j_iret dX12_draw_74 rfl ?_
  exact rI_of rfl rfl
theorem mp_draw_3 (hsh : ShOK sh) (hfx : FxOK F) (hW : WF (I 171)) (hr : 0 ≤ I 170 7 ∧ I 170 7 ≤ 12) {p n : Int} (h1 : gP (I 171) p) (h2 : 1 ≤ n ∧ n ≤ aOf (I 171) p 1) (h3 : ¬ (aOf (I 171) p 3 = 0 ∧ ¬ I 171 8 = 1)) : jS G (d + 6) mX12_draw [jR (some 170), jI p, jI n] (sh, I, F) 0 0 (rI (0) (sh, jup I 170 0 3, F)) := by
  have hP : WfP (I 171) := hW.1
  have g8 : aPe (I 171) ≤ 8 := hP.2
  have gp : 0 ≤ p ∧ p < 8 := by have := h1.1; have := h1.2; omega
  refine jS_go [some (jR (some 170)), some (jI p), some (jI n)] (by decide +kernel) rfl (by simp [jone]) (Nat.le_of_ble_eq_true rfl) rfl (fun hok => ?_)
  refine j_aload_n dX12_draw_0 rfl ?_
  refine j_iconst dX12_draw_1 ?_
  refine r_putI dX12_draw_2 flX12_3 rfl (by first | assumption | exact hsh _ _ rfl) (by first | omega | (split <;> omega)) (fun q => by cases q) ?_
  skip
  have hok1 : jzok (sh, jup I 170 0 0, F) := jzok_I hok jin_lit0
  have hw0 : (jup I 170 0 0) 171 = I 171 := jup_ne _ _ _ (by decide)
  clear hok
  rw [← jup_up I 170 0 0 3]
  rw [← hw0] at hP h1 h2 h3 hW
  try rw [← hw0]
  obtain ⟨I1, hI1⟩ : ∃ J, J = jup I 170 0 0 := ⟨_, rfl⟩
  rw [← hI1] at hok1 hw0 hP h1 h2 h3 hW ⊢
  have hok := hok1
  have q1 := (hW.2.1.2.2 p gp.1 (by have := h1.2; omega)).2.1
  by_cases e : aOf (I1 171) p 3 = 0
  · have e2 : I1 171 8 = 1 := Classical.not_not.1 (fun q => h3 ⟨e, q⟩)
    refine j_aload_n dX12_draw_5 rfl ?_
    refine j_aload_n dX12_draw_6 rfl ?_
    refine j_iload_n dX12_draw_7 rfl ?_
    refine r_cv1I dX12_draw_8 cvX12_335 (by decide) (by first | assumption | exact hsh _ _ rfl) (Nat.le_of_ble_eq_true rfl) (Nat.le_of_eq (Nat.zero_add _)) (Nat.le_of_eq (Nat.zero_add _)) (sm_noP0 hsh hfx hok (by omega) hP h1) ?_
    refine j_iconst dX12_draw_11 ?_
    refine r_cv2I dX12_draw_12 cvX12_253 (by decide) (by first | assumption | exact hsh _ _ rfl) (Nat.le_of_ble_eq_true rfl) (Nat.le_of_eq (Nat.zero_add _)) (Nat.le_of_eq (Nat.zero_add _)) (sm_thr0 hsh) ?_
    refine j_if_ne (tgt := 73) dX12_draw_15 rfl (by first | omega | (split <;> omega)) (fun c_15 => by exact absurd c_15 (by decide)) (fun c_15 => ?_)
    refine j_aload_n dX12_draw_18 rfl ?_
    refine j_iload_n dX12_draw_19 rfl ?_
    refine j_iconst dX12_draw_20 ?_
    refine j_aload_n dX12_draw_21 rfl ?_
    refine j_iload_n dX12_draw_22 rfl ?_
    refine j_iconst dX12_draw_23 ?_
    refine r_cv2J dX12_draw_24 cvX12_68 (by decide) (by first | assumption | exact hsh _ _ rfl) (Nat.le_of_ble_eq_true rfl) (Nat.le_of_eq (Nat.zero_add _)) (Nat.le_of_eq (Nat.zero_add _)) (sm_of hsh hfx (by omega)) (hok.2.1 171 _) (fun b_24 => ?_)
    refine r_cs3I dX12_draw_27 csX12_78 (Nat.le_of_ble_eq_true rfl) (Nat.le_of_eq (Nat.zero_add _)) (Nat.le_of_eq (Nat.zero_add _)) (sm_in1 (by omega) (by omega) (by omega) h2) ?_
    refine j_if_ne (tgt := 37) dX12_draw_30 rfl (by first | omega | (split <;> omega)) (fun c_30 => ?_) (fun c_30 => by exact absurd c_30 (by decide))
    refine j_iconst dX12_draw_37 ?_
    refine j_iconst dX12_draw_38 ?_
    refine r_cv2I dX12_draw_39 cvX12_253 (by decide) (by first | assumption | exact hsh _ _ rfl) (Nat.le_of_ble_eq_true rfl) (Nat.le_of_eq (Nat.zero_add _)) (Nat.le_of_eq (Nat.zero_add _)) (sm_thr0 hsh) ?_
    refine j_if_ne (tgt := 73) dX12_draw_42 rfl (by first | omega | (split <;> omega)) (fun c_42 => by exact absurd c_42 (by decide)) (fun c_42 => ?_)
    refine j_aload_n dX12_draw_45 rfl ?_
    refine j_aload_n dX12_draw_46 rfl ?_
    refine j_iload_n dX12_draw_47 rfl ?_
    refine r_cv1I dX12_draw_48 cvX12_296 (by decide) (by first | assumption | exact hsh _ _ rfl) (Nat.le_of_ble_eq_true rfl) (Nat.le_of_eq (Nat.zero_add _)) (Nat.le_of_eq (Nat.zero_add _)) (sm_al1 hsh hfx (by omega) e) ?_
    refine j_if_eq (tgt := 61) dX12_draw_51 rfl (by first | omega | (split <;> omega)) (fun c_51 => by exact absurd c_51 (by decide)) (fun c_51 => ?_)
    refine j_aload_n dX12_draw_54 rfl ?_
    refine r_cv0I dX12_draw_55 cvX12_268 (by decide) (by first | assumption | exact hsh _ _ rfl) (Nat.le_of_ble_eq_true rfl) (Nat.le_of_eq (Nat.zero_add _)) (Nat.le_of_eq (Nat.zero_add _)) (sm_fl1 hsh hfx e2) ?_
    refine j_if_eq (tgt := 65) dX12_draw_58 rfl (by first | omega | (split <;> omega)) (fun c_58 => by exact absurd c_58 (by decide)) (fun c_58 => ?_)
    refine j_iconst dX12_draw_61 ?_
    refine j_goto (tgt := 66) dX12_draw_62 rfl ?_
    refine j_iconst dX12_draw_66 ?_
    refine r_cv2I dX12_draw_67 cvX12_253 (by decide) (by first | assumption | exact hsh _ _ rfl) (Nat.le_of_ble_eq_true rfl) (Nat.le_of_eq (Nat.zero_add _)) (Nat.le_of_eq (Nat.zero_add _)) (sm_thr1 hsh (by omega)) ?_
    refine j_if_eq (tgt := 75) dX12_draw_70 rfl (by first | omega | (split <;> omega)) (fun c_70 => by exact absurd c_70 (by decide)) (fun c_70 => ?_)
    refine j_iconst dX12_draw_73 ?_
    refine j_iret dX12_draw_74 rfl ?_
    exact rI_of rfl rfl
  · refine j_aload_n dX12_draw_5 rfl ?_
    refine j_aload_n dX12_draw_6 rfl ?_
    refine j_iload_n dX12_draw_7 rfl ?_
    refine r_cv1I dX12_draw_8 cvX12_335 (by decide) (by first | assumption | exact hsh _ _ rfl) (Nat.le_of_ble_eq_true rfl) (Nat.le_of_eq (Nat.zero_add _)) (Nat.le_of_eq (Nat.zero_add _)) (sm_noP0 hsh hfx hok (by omega) hP h1) ?_
    refine j_iconst dX12_draw_11 ?_
    refine r_cv2I dX12_draw_12 cvX12_253 (by decide) (by first | assumption | exact hsh _ _ rfl) (Nat.le_of_ble_eq_true rfl) (Nat.le_of_eq (Nat.zero_add _)) (Nat.le_of_eq (Nat.zero_add _)) (sm_thr0 hsh) ?_
    refine j_if_ne (tgt := 73) dX12_draw_15 rfl (by first | omega | (split <;> omega)) (fun c_15 => by exact absurd c_15 (by decide)) (fun c_15 => ?_)
    refine j_aload_n dX12_draw_18 rfl ?_
    refine j_iload_n dX12_draw_19 rfl ?_
    refine j_iconst dX12_draw_20 ?_
    refine j_aload_n dX12_draw_21 rfl ?_
    refine j_iload_n dX12_draw_22 rfl ?_
    refine j_iconst dX12_draw_23 ?_
    refine r_cv2J dX12_draw_24 cvX12_68 (by decide) (by first | assumption | exact hsh _ _ rfl) (Nat.le_of_ble_eq_true rfl) (Nat.le_of_eq (Nat.zero_add _)) (Nat.le_of_eq (Nat.zero_add _)) (sm_of hsh hfx (by omega)) (hok.2.1 171 _) (fun b_24 => ?_)
    refine r_cs3I dX12_draw_27 csX12_78 (Nat.le_of_ble_eq_true rfl) (Nat.le_of_eq (Nat.zero_add _)) (Nat.le_of_eq (Nat.zero_add _)) (sm_in1 (by omega) (by omega) (by omega) h2) ?_
    refine j_if_ne (tgt := 37) dX12_draw_30 rfl (by first | omega | (split <;> omega)) (fun c_30 => ?_) (fun c_30 => by exact absurd c_30 (by decide))
    refine j_iconst dX12_draw_37 ?_
    refine j_iconst dX12_draw_38 ?_
    refine r_cv2I dX12_draw_39 cvX12_253 (by decide) (by first | assumption | exact hsh _ _ rfl) (Nat.le_of_ble_eq_true rfl) (Nat.le_of_eq (Nat.zero_add _)) (Nat.le_of_eq (Nat.zero_add _)) (sm_thr0 hsh) ?_
    refine j_if_ne (tgt := 73) dX12_draw_42 rfl (by first | omega | (split <;> omega)) (fun c_42 => by exact absurd c_42 (by decide)) (fun c_42 => ?_)
    refine j_aload_n dX12_draw_45 rfl ?_
    refine j_aload_n dX12_draw_46 rfl ?_
    refine j_iload_n dX12_draw_47 rfl ?_
    refine r_cv1I dX12_draw_48 cvX12_296 (by decide) (by first | assumption | exact hsh _ _ rfl) (Nat.le_of_ble_eq_true rfl) (Nat.le_of_eq (Nat.zero_add _)) (Nat.le_of_eq (Nat.zero_add _)) (sm_al0 hsh hfx (by omega) e) ?_
    refine j_if_eq (tgt := 61) dX12_draw_51 rfl (by first | omega | (split <;> omega)) (fun c_51 => ?_) (fun c_51 => by exact absurd c_51 (by decide))
    refine j_iconst dX12_draw_61 ?_
    refine j_goto (tgt := 66) dX12_draw_62 rfl ?_
    refine j_iconst dX12_draw_66 ?_
    refine r_cv2I dX12_draw_67 cvX12_253 (by decide) (by first | assumption | exact hsh _ _ rfl) (Nat.le_of_ble_eq_true rfl) (Nat.le_of_eq (Nat.zero_add _)) (Nat.le_of_eq (Nat.zero_add _)) (sm_thr1 hsh (by omega)) ?_
    refine j_if_eq (tgt := 75) dX12_draw_70 rfl (by first | omega | (split <;> omega)) (fun c_70 => by exact absurd c_70 (by decide)) (fun c_70 => ?_)
    refine j_iconst dX12_draw_73 ?_
    refine j_iret dX12_draw_74 rfl ?_
    exact rI_of rfl rfl
theorem mp_draw_0 (hsh : ShOK sh) (hfx : FxOK F) (hW : WF (I 171)) (hr : 0 ≤ I 170 7 ∧ I 170 7 ≤ 12) {p n : Int} (h1 : gP (I 171) p) (h2 : 1 ≤ n ∧ n ≤ aOf (I 171) p 1) (h3 : aOf (I 171) p 3 = 0 ∧ ¬ I 171 8 = 1) : jS G (d + 6) mX12_draw [jR (some 170), jI p, jI n] (sh, I, F) 0 0 (rEI (n - min n (aOf (I 171) p 2)) sh F (AcO 0 I (mzW (mzR I) (wDraw (I 171) p n)))) := by
  have hP : WfP (I 171) := hW.1
  have g8 : aPe (I 171) ≤ 8 := hP.2
  have gp : 0 ≤ p ∧ p < 8 := by have := h1.1; have := h1.2; omega
  have q1 := (hW.2.1.2.2 p gp.1 (by have := h1.2; omega)).2.1
  have q1o := q1
  have h2o := h2
  refine jS_go [some (jR (some 170)), some (jI p), some (jI n)] (by decide +kernel) rfl (by simp [jone]) (Nat.le_of_ble_eq_true rfl) rfl (fun hok => ?_)
  refine j_aload_n dX12_draw_0 rfl ?_
  refine j_iconst dX12_draw_1 ?_
  refine r_putI dX12_draw_2 flX12_3 rfl (by first | assumption | exact hsh _ _ rfl) (by first | omega | (split <;> omega)) (fun q => by cases q) ?_
  skip
  have hok1 : jzok (sh, jup I 170 0 0, F) := jzok_I hok jin_lit0
  obtain ⟨I1, hI1⟩ : ∃ J, J = jup I 170 0 0 := ⟨_, rfl⟩
  rw [← hI1] at hok1 ⊢
  have hok0 := hok
  clear hok
  have hok := hok1
  have fr1 : ∀ a, a ≠ 170 → I1 a = I a := fun a ha => by rw [hI1, jup_ne _ _ _ ha]
  have fr1k : ∀ k, k ≠ 0 → I1 170 k = I 170 k := fun k hk => by rw [hI1, jup_row _ _ _ hk]
  have fr1c : I1 170 0 = 0 := by rw [hI1, jup_same]
  have hw0 : I1 171 = I 171 := fr1 171 (by decide)
  rw [← hw0] at hP h1 h2 h3 q1
  have hr7 : I1 170 7 = I 170 7 := fr1k 7 (by decide)
  have qA := hW.2.1.2.2 p gp.1 (by have := h1.2; rw [hw0] at this; omega)
  have st := fun (J : Nat → Int → Int) (h : J 171 = I 171) => sm_takes (G := G) (d := d + 3) (F := F) (I := J) hsh hfx (p := p) (n := n) gp (by rw [h]; omega) (by rw [h]; omega) (by rw [h]; rw [hw0] at h2; omega)
  refine j_aload_n dX12_draw_5 rfl ?_
  refine j_aload_n dX12_draw_6 rfl ?_
  refine j_iload_n dX12_draw_7 rfl ?_
  refine r_cv1I dX12_draw_8 cvX12_335 (by decide) (by first | assumption | exact hsh _ _ rfl) (Nat.le_of_ble_eq_true rfl) (Nat.le_of_eq (Nat.zero_add _)) (Nat.le_of_eq (Nat.zero_add _)) (sm_noP0 hsh hfx hok (by omega) hP h1) ?_
  refine j_iconst dX12_draw_11 ?_
  refine r_cv2I dX12_draw_12 cvX12_253 (by decide) (by first | assumption | exact hsh _ _ rfl) (Nat.le_of_ble_eq_true rfl) (Nat.le_of_eq (Nat.zero_add _)) (Nat.le_of_eq (Nat.zero_add _)) (sm_thr0 hsh) ?_
  refine j_if_ne (tgt := 73) dX12_draw_15 rfl (by first | omega | (split <;> omega)) (fun c_15 => by exact absurd c_15 (by decide)) (fun c_15 => ?_)
  refine j_aload_n dX12_draw_18 rfl ?_
  refine j_iload_n dX12_draw_19 rfl ?_
  refine j_iconst dX12_draw_20 ?_
  refine j_aload_n dX12_draw_21 rfl ?_
  refine j_iload_n dX12_draw_22 rfl ?_
  refine j_iconst dX12_draw_23 ?_
  refine r_cv2J dX12_draw_24 cvX12_68 (by decide) (by first | assumption | exact hsh _ _ rfl) (Nat.le_of_ble_eq_true rfl) (Nat.le_of_eq (Nat.zero_add _)) (Nat.le_of_eq (Nat.zero_add _)) (sm_of hsh hfx (by omega)) (hok.2.1 171 _) (fun b_24 => ?_)
  refine r_cs3I dX12_draw_27 csX12_78 (Nat.le_of_ble_eq_true rfl) (Nat.le_of_eq (Nat.zero_add _)) (Nat.le_of_eq (Nat.zero_add _)) (sm_in1 (by omega) (by omega) (by omega) h2) ?_
  refine j_if_ne (tgt := 37) dX12_draw_30 rfl (by first | omega | (split <;> omega)) (fun c_30 => ?_) (fun c_30 => by exact absurd c_30 (by decide))
  refine j_iconst dX12_draw_37 ?_
  refine j_iconst dX12_draw_38 ?_
  refine r_cv2I dX12_draw_39 cvX12_253 (by decide) (by first | assumption | exact hsh _ _ rfl) (Nat.le_of_ble_eq_true rfl) (Nat.le_of_eq (Nat.zero_add _)) (Nat.le_of_eq (Nat.zero_add _)) (sm_thr0 hsh) ?_
  refine j_if_ne (tgt := 73) dX12_draw_42 rfl (by first | omega | (split <;> omega)) (fun c_42 => by exact absurd c_42 (by decide)) (fun c_42 => ?_)
  refine j_aload_n dX12_draw_45 rfl ?_
  refine j_aload_n dX12_draw_46 rfl ?_
  refine j_iload_n dX12_draw_47 rfl ?_
  refine r_cv1I dX12_draw_48 cvX12_296 (by decide) (by first | assumption | exact hsh _ _ rfl) (Nat.le_of_ble_eq_true rfl) (Nat.le_of_eq (Nat.zero_add _)) (Nat.le_of_eq (Nat.zero_add _)) (sm_al1 hsh hfx (by omega) h3.1) ?_
  refine j_if_eq (tgt := 61) dX12_draw_51 rfl (by first | omega | (split <;> omega)) (fun c_51 => by exact absurd c_51 (by decide)) (fun c_51 => ?_)
  refine j_aload_n dX12_draw_54 rfl ?_
  refine r_cv0I dX12_draw_55 cvX12_268 (by decide) (by first | assumption | exact hsh _ _ rfl) (Nat.le_of_ble_eq_true rfl) (Nat.le_of_eq (Nat.zero_add _)) (Nat.le_of_eq (Nat.zero_add _)) (sm_fl0 hsh hfx h3.2) ?_
  refine j_if_eq (tgt := 65) dX12_draw_58 rfl (by first | omega | (split <;> omega)) (fun c_58 => ?_) (fun c_58 => by exact absurd c_58 (by decide))
  refine j_iconst dX12_draw_65 ?_
  refine j_iconst dX12_draw_66 ?_
  refine r_cv2I dX12_draw_67 cvX12_253 (by decide) (by first | assumption | exact hsh _ _ rfl) (Nat.le_of_ble_eq_true rfl) (Nat.le_of_eq (Nat.zero_add _)) (Nat.le_of_eq (Nat.zero_add _)) (sm_thr0 hsh) ?_
  refine j_if_eq (tgt := 75) dX12_draw_70 rfl (by first | omega | (split <;> omega)) (fun c_70 => ?_) (fun c_70 => by exact absurd c_70 (by decide))
  refine j_aload_n dX12_draw_75 rfl ?_
  refine r_cv0EV dX12_draw_76 cvX12_356 (by decide) (by first | assumption | exact hsh _ _ rfl) (Nat.le_of_ble_eq_true rfl) (Nat.le_of_eq (Nat.zero_add _)) (Nat.le_of_eq (Nat.zero_add _)) (sm_remembers hsh hfx hr7 hr) (fun J hJ => ?_)
  have eJ : J 171 = I 171 := (hJ.2.2.1 171 (by decide) (by decide)).trans (fr1 171 (by decide))
  clear hok
  refine jW_ok (fun hok => ?_)
  have st2 := st J eJ
  rw [eJ] at st2
  refine j_aload_n dX12_draw_79 rfl ?_
  refine j_iload_n dX12_draw_80 rfl ?_
  refine j_iload_n dX12_draw_81 rfl ?_
  refine r_cv2I dX12_draw_82 cvX12_293 (by decide) (by first | assumption | exact hsh _ _ rfl) (Nat.le_of_ble_eq_true rfl) (Nat.le_of_eq (Nat.zero_add _)) (Nat.le_of_eq (Nat.zero_add _)) (st2) ?_
  refine j_iret dX12_draw_85 rfl ?_
  exact rEI_of rfl (Ac_of fr1 fr1k fr1c hJ (fun a ha => by rw [jup_ne _ _ _ ha, jup_ne _ _ _ ha]) (by rw [jup_at, jup_at, eJ]))
theorem mp_cheque_1 (hsh : ShOK sh) (hfx : FxOK F) (hW : WF (I 171)) (hr : 0 ≤ I 170 7 ∧ I 170 7 ≤ 12) {p q n : Int} (j1 : jin p) (j2 : jin q) (h : ¬ (gP (I 171) p ∧ gP (I 171) q)) : jS G (d + 6) mX12_cheque [jR (some 170), jI p, jI q, jI n] (sh, I, F) 0 0 (rI (0) (sh, jup I 170 0 1, F)) := by
  have hP : WfP (I 171) := hW.1
  have g8 : aPe (I 171) ≤ 8 := hP.2
  refine jS_go [some (jR (some 170)), some (jI p), some (jI q), some (jI n), none] (by decide +kernel) rfl (by simp [jone]) (Nat.le_of_ble_eq_true rfl) rfl (fun hok => ?_)
  refine j_aload_n dX12_cheque_0 rfl ?_
  refine j_iconst dX12_cheque_1 ?_
  refine r_putI dX12_cheque_2 flX12_3 rfl (by first | assumption | exact hsh _ _ rfl) (by first | omega | (split <;> omega)) (fun q => by cases q) ?_
  skip
  have hok1 : jzok (sh, jup I 170 0 0, F) := jzok_I hok jin_lit0
  have hw0 : (jup I 170 0 0) 171 = I 171 := jup_ne _ _ _ (by decide)
  clear hok
  rw [← jup_up I 170 0 0 1]
  rw [← hw0] at hP h
  try rw [← hw0]
  obtain ⟨I1, hI1⟩ : ∃ J, J = jup I 170 0 0 := ⟨_, rfl⟩
  rw [← hI1] at hok1 hw0 hP h ⊢
  have hok := hok1
  by_cases e1 : gP (I1 171) p
  · have e2 : ¬ gP (I1 171) q := fun q => h ⟨e1, q⟩
    refine j_aload_n dX12_cheque_5 rfl ?_
    refine j_aload_n dX12_cheque_6 rfl ?_
    refine j_iload_n dX12_cheque_7 rfl ?_
    refine r_cv1I dX12_cheque_8 cvX12_335 (by decide) (by first | assumption | exact hsh _ _ rfl) (Nat.le_of_ble_eq_true rfl) (Nat.le_of_eq (Nat.zero_add _)) (Nat.le_of_eq (Nat.zero_add _)) (sm_noP0 hsh hfx hok (by omega) hP e1) ?_
    refine j_if_ne (tgt := 22) dX12_cheque_11 rfl (by first | omega | (split <;> omega)) (fun c_11 => by exact absurd c_11 (by decide)) (fun c_11 => ?_)
    refine j_aload_n dX12_cheque_14 rfl ?_
    refine j_iload_n dX12_cheque_15 rfl ?_
    refine r_cv1I dX12_cheque_16 cvX12_335 (by decide) (by first | assumption | exact hsh _ _ rfl) (Nat.le_of_ble_eq_true rfl) (Nat.le_of_eq (Nat.zero_add _)) (Nat.le_of_eq (Nat.zero_add _)) (sm_noP1 hsh hfx hok (by omega) hP e2) ?_
    refine j_if_eq (tgt := 26) dX12_cheque_19 rfl (by first | omega | (split <;> omega)) (fun c_19 => by exact absurd c_19 (by decide)) (fun c_19 => ?_)
    refine j_iconst dX12_cheque_22 ?_
    refine j_goto (tgt := 27) dX12_cheque_23 rfl ?_
    refine j_iconst dX12_cheque_27 ?_
    refine r_cv2I dX12_cheque_28 cvX12_253 (by decide) (by first | assumption | exact hsh _ _ rfl) (Nat.le_of_ble_eq_true rfl) (Nat.le_of_eq (Nat.zero_add _)) (Nat.le_of_eq (Nat.zero_add _)) (sm_thr1 hsh (by omega)) ?_
    refine j_if_ne (tgt := 115) dX12_cheque_31 rfl (by first | omega | (split <;> omega)) (fun c_31 => ?_) (fun c_31 => by exact absurd c_31 (by decide))
    refine j_iconst dX12_cheque_115 ?_
    refine j_iret dX12_cheque_116 rfl ?_
    exact rI_of rfl rfl
  · refine j_aload_n dX12_cheque_5 rfl ?_
    refine j_aload_n dX12_cheque_6 rfl ?_
    refine j_iload_n dX12_cheque_7 rfl ?_
    refine r_cv1I dX12_cheque_8 cvX12_335 (by decide) (by first | assumption | exact hsh _ _ rfl) (Nat.le_of_ble_eq_true rfl) (Nat.le_of_eq (Nat.zero_add _)) (Nat.le_of_eq (Nat.zero_add _)) (sm_noP1 hsh hfx hok (by omega) hP e1) ?_
    refine j_if_ne (tgt := 22) dX12_cheque_11 rfl (by first | omega | (split <;> omega)) (fun c_11 => ?_) (fun c_11 => by exact absurd c_11 (by decide))
    refine j_iconst dX12_cheque_22 ?_
    refine j_goto (tgt := 27) dX12_cheque_23 rfl ?_
    refine j_iconst dX12_cheque_27 ?_
    refine r_cv2I dX12_cheque_28 cvX12_253 (by decide) (by first | assumption | exact hsh _ _ rfl) (Nat.le_of_ble_eq_true rfl) (Nat.le_of_eq (Nat.zero_add _)) (Nat.le_of_eq (Nat.zero_add _)) (sm_thr1 hsh (by omega)) ?_
    refine j_if_ne (tgt := 115) dX12_cheque_31 rfl (by first | omega | (split <;> omega)) (fun c_31 => ?_) (fun c_31 => by exact absurd c_31 (by decide))
    refine j_iconst dX12_cheque_115 ?_
    refine j_iret dX12_cheque_116 rfl ?_
    exact rI_of rfl rfl
theorem mp_cheque_2 (hsh : ShOK sh) (hfx : FxOK F) (hW : WF (I 171)) (hr : 0 ≤ I 170 7 ∧ I 170 7 ≤ 12) {p q n : Int} (h1 : gP (I 171) p ∧ gP (I 171) q) (jn : jin n) (h2 : ¬ (¬ p = q ∧ (1 ≤ n ∧ n ≤ aOf (I 171) p 1) ∧ aOf (I 171) q 1 + n ≤ 99999)) : jS G (d + 6) mX12_cheque [jR (some 170), jI p, jI q, jI n] (sh, I, F) 0 0 (rI (0) (sh, jup I 170 0 2, F)) := by
  have hP : WfP (I 171) := hW.1
  have g8 : aPe (I 171) ≤ 8 := hP.2
  have gp : 0 ≤ p ∧ p < 8 := by have := h1.1.1; have := h1.1.2; omega
  have gq : 0 ≤ q ∧ q < 8 := by have := h1.2.1; have := h1.2.2; omega
  refine jS_go [some (jR (some 170)), some (jI p), some (jI q), some (jI n), none] (by decide +kernel) rfl (by simp [jone]) (Nat.le_of_ble_eq_true rfl) rfl (fun hok => ?_)
  refine j_aload_n dX12_cheque_0 rfl ?_
  refine j_iconst dX12_cheque_1 ?_
  refine r_putI dX12_cheque_2 flX12_3 rfl (by first | assumption | exact hsh _ _ rfl) (by first | omega | (split <;> omega)) (fun q => by cases q) ?_
  skip
  have hok1 : jzok (sh, jup I 170 0 0, F) := jzok_I hok jin_lit0
  have hw0 : (jup I 170 0 0) 171 = I 171 := jup_ne _ _ _ (by decide)
  clear hok
  rw [← jup_up I 170 0 0 2]
  rw [← hw0] at hP h1 h2 hW
  try rw [← hw0]
  obtain ⟨I1, hI1⟩ : ∃ J, J = jup I 170 0 0 := ⟨_, rfl⟩
  rw [← hI1] at hok1 hw0 hP h1 h2 hW ⊢
  have hok := hok1
  have q1 := (hW.2.1.2.2 p gp.1 (by have := h1.1.2; omega)).2.1
  have q2 := (hW.2.1.2.2 q gq.1 (by have := h1.2.2; omega)).2.1
  by_cases e : p = q
  · refine j_aload_n dX12_cheque_5 rfl ?_
    refine j_aload_n dX12_cheque_6 rfl ?_
    refine j_iload_n dX12_cheque_7 rfl ?_
    refine r_cv1I dX12_cheque_8 cvX12_335 (by decide) (by first | assumption | exact hsh _ _ rfl) (Nat.le_of_ble_eq_true rfl) (Nat.le_of_eq (Nat.zero_add _)) (Nat.le_of_eq (Nat.zero_add _)) (sm_noP0 hsh hfx hok (by omega) hP h1.1) ?_
    refine j_if_ne (tgt := 22) dX12_cheque_11 rfl (by first | omega | (split <;> omega)) (fun c_11 => by exact absurd c_11 (by decide)) (fun c_11 => ?_)
    refine j_aload_n dX12_cheque_14 rfl ?_
    refine j_iload_n dX12_cheque_15 rfl ?_
    refine r_cv1I dX12_cheque_16 cvX12_335 (by decide) (by first | assumption | exact hsh _ _ rfl) (Nat.le_of_ble_eq_true rfl) (Nat.le_of_eq (Nat.zero_add _)) (Nat.le_of_eq (Nat.zero_add _)) (sm_noP0 hsh hfx hok (by omega) hP h1.2) ?_
    refine j_if_eq (tgt := 26) dX12_cheque_19 rfl (by first | omega | (split <;> omega)) (fun c_19 => ?_) (fun c_19 => by exact absurd c_19 (by decide))
    refine j_iconst dX12_cheque_26 ?_
    refine j_iconst dX12_cheque_27 ?_
    refine r_cv2I dX12_cheque_28 cvX12_253 (by decide) (by first | assumption | exact hsh _ _ rfl) (Nat.le_of_ble_eq_true rfl) (Nat.le_of_eq (Nat.zero_add _)) (Nat.le_of_eq (Nat.zero_add _)) (sm_thr0 hsh) ?_
    refine j_if_ne (tgt := 115) dX12_cheque_31 rfl (by first | omega | (split <;> omega)) (fun c_31 => by exact absurd c_31 (by decide)) (fun c_31 => ?_)
    refine j_aload_n dX12_cheque_34 rfl ?_
    refine j_iload_n dX12_cheque_35 rfl ?_
    refine j_iload_n dX12_cheque_36 rfl ?_
    refine j_icmp_eq (tgt := 67) dX12_cheque_37 rfl (by first | omega | (split <;> omega)) (by first | omega | (split <;> omega)) (fun c_37 => ?_) (fun c_37 => by exact absurd e c_37)
    refine j_iconst dX12_cheque_67 ?_
    refine j_goto (tgt := 72) dX12_cheque_68 rfl ?_
    refine j_iconst dX12_cheque_72 ?_
    refine r_cv2I dX12_cheque_73 cvX12_253 (by decide) (by first | assumption | exact hsh _ _ rfl) (Nat.le_of_ble_eq_true rfl) (Nat.le_of_eq (Nat.zero_add _)) (Nat.le_of_eq (Nat.zero_add _)) (sm_thr1 hsh (by omega)) ?_
    refine j_if_ne (tgt := 115) dX12_cheque_76 rfl (by first | omega | (split <;> omega)) (fun c_76 => ?_) (fun c_76 => by exact absurd c_76 (by decide))
    refine j_iconst dX12_cheque_115 ?_
    refine j_iret dX12_cheque_116 rfl ?_
    exact rI_of rfl rfl
  · by_cases e2 : 1 ≤ n ∧ n ≤ aOf (I1 171) p 1
    · have e3 : ¬ aOf (I1 171) q 1 + n ≤ 99999 := fun q => h2 ⟨e, e2, q⟩
      refine j_aload_n dX12_cheque_5 rfl ?_
      refine j_aload_n dX12_cheque_6 rfl ?_
      refine j_iload_n dX12_cheque_7 rfl ?_
      refine r_cv1I dX12_cheque_8 cvX12_335 (by decide) (by first | assumption | exact hsh _ _ rfl) (Nat.le_of_ble_eq_true rfl) (Nat.le_of_eq (Nat.zero_add _)) (Nat.le_of_eq (Nat.zero_add _)) (sm_noP0 hsh hfx hok (by omega) hP h1.1) ?_
      refine j_if_ne (tgt := 22) dX12_cheque_11 rfl (by first | omega | (split <;> omega)) (fun c_11 => by exact absurd c_11 (by decide)) (fun c_11 => ?_)
      refine j_aload_n dX12_cheque_14 rfl ?_
      refine j_iload_n dX12_cheque_15 rfl ?_
      refine r_cv1I dX12_cheque_16 cvX12_335 (by decide) (by first | assumption | exact hsh _ _ rfl) (Nat.le_of_ble_eq_true rfl) (Nat.le_of_eq (Nat.zero_add _)) (Nat.le_of_eq (Nat.zero_add _)) (sm_noP0 hsh hfx hok (by omega) hP h1.2) ?_
      refine j_if_eq (tgt := 26) dX12_cheque_19 rfl (by first | omega | (split <;> omega)) (fun c_19 => ?_) (fun c_19 => by exact absurd c_19 (by decide))
      refine j_iconst dX12_cheque_26 ?_
      refine j_iconst dX12_cheque_27 ?_
      refine r_cv2I dX12_cheque_28 cvX12_253 (by decide) (by first | assumption | exact hsh _ _ rfl) (Nat.le_of_ble_eq_true rfl) (Nat.le_of_eq (Nat.zero_add _)) (Nat.le_of_eq (Nat.zero_add _)) (sm_thr0 hsh) ?_
      refine j_if_ne (tgt := 115) dX12_cheque_31 rfl (by first | omega | (split <;> omega)) (fun c_31 => by exact absurd c_31 (by decide)) (fun c_31 => ?_)
      refine j_aload_n dX12_cheque_34 rfl ?_
      refine j_iload_n dX12_cheque_35 rfl ?_
      refine j_iload_n dX12_cheque_36 rfl ?_
      refine j_icmp_eq (tgt := 67) dX12_cheque_37 rfl (by first | omega | (split <;> omega)) (by first | omega | (split <;> omega)) (fun c_37 => by exact absurd c_37 e) (fun c_37 => ?_)
      refine j_iload_n dX12_cheque_40 rfl ?_
      refine j_iconst dX12_cheque_41 ?_
      refine j_aload_n dX12_cheque_42 rfl ?_
      refine j_iload_n dX12_cheque_43 rfl ?_
      refine j_iconst dX12_cheque_44 ?_
      refine r_cv2J dX12_cheque_45 cvX12_68 (by decide) (by first | assumption | exact hsh _ _ rfl) (Nat.le_of_ble_eq_true rfl) (Nat.le_of_eq (Nat.zero_add _)) (Nat.le_of_eq (Nat.zero_add _)) (sm_of hsh hfx (by omega)) (hok.2.1 171 _) (fun b_45 => ?_)
      refine r_cs3I dX12_cheque_48 csX12_78 (Nat.le_of_ble_eq_true rfl) (Nat.le_of_eq (Nat.zero_add _)) (Nat.le_of_eq (Nat.zero_add _)) (sm_in1 (by omega) (by omega) (by omega) e2) ?_
      refine j_if_eq (tgt := 67) dX12_cheque_51 rfl (by first | omega | (split <;> omega)) (fun c_51 => by exact absurd c_51 (by decide)) (fun c_51 => ?_)
      refine j_aload_n dX12_cheque_54 rfl ?_
      refine j_iload_n dX12_cheque_55 rfl ?_
      refine j_iconst dX12_cheque_56 ?_
      refine r_cv2J dX12_cheque_57 cvX12_68 (by decide) (by first | assumption | exact hsh _ _ rfl) (Nat.le_of_ble_eq_true rfl) (Nat.le_of_eq (Nat.zero_add _)) (Nat.le_of_eq (Nat.zero_add _)) (sm_of hsh hfx (by omega)) (hok.2.1 171 _) (fun b_57 => ?_)
      refine j_iload_n dX12_cheque_60 rfl ?_
      refine j_iadd dX12_cheque_61 ?_
      refine j_ldc (n := 99999) dX12_cheque_62 kcX12_140 ?_
      refine j_icmp_le (tgt := 71) dX12_cheque_64 rfl (by first | omega | (split <;> omega)) (by first | omega | (split <;> omega)) (fun c_64 => by exact absurd c_64 e3) (fun c_64 => ?_)
      refine j_iconst dX12_cheque_67 ?_
      refine j_goto (tgt := 72) dX12_cheque_68 rfl ?_
      refine j_iconst dX12_cheque_72 ?_
      refine r_cv2I dX12_cheque_73 cvX12_253 (by decide) (by first | assumption | exact hsh _ _ rfl) (Nat.le_of_ble_eq_true rfl) (Nat.le_of_eq (Nat.zero_add _)) (Nat.le_of_eq (Nat.zero_add _)) (sm_thr1 hsh (by omega)) ?_
      refine j_if_ne (tgt := 115) dX12_cheque_76 rfl (by first | omega | (split <;> omega)) (fun c_76 => ?_) (fun c_76 => by exact absurd c_76 (by decide))
      refine j_iconst dX12_cheque_115 ?_
      refine j_iret dX12_cheque_116 rfl ?_
      exact rI_of rfl rfl
    · refine j_aload_n dX12_cheque_5 rfl ?_
      refine j_aload_n dX12_cheque_6 rfl ?_
      refine j_iload_n dX12_cheque_7 rfl ?_
      refine r_cv1I dX12_cheque_8 cvX12_335 (by decide) (by first | assumption | exact hsh _ _ rfl) (Nat.le_of_ble_eq_true rfl) (Nat.le_of_eq (Nat.zero_add _)) (Nat.le_of_eq (Nat.zero_add _)) (sm_noP0 hsh hfx hok (by omega) hP h1.1) ?_
      refine j_if_ne (tgt := 22) dX12_cheque_11 rfl (by first | omega | (split <;> omega)) (fun c_11 => by exact absurd c_11 (by decide)) (fun c_11 => ?_)
      refine j_aload_n dX12_cheque_14 rfl ?_
      refine j_iload_n dX12_cheque_15 rfl ?_
      refine r_cv1I dX12_cheque_16 cvX12_335 (by decide) (by first | assumption | exact hsh _ _ rfl) (Nat.le_of_ble_eq_true rfl) (Nat.le_of_eq (Nat.zero_add _)) (Nat.le_of_eq (Nat.zero_add _)) (sm_noP0 hsh hfx hok (by omega) hP h1.2) ?_
      refine j_if_eq (tgt := 26) dX12_cheque_19 rfl (by first | omega | (split <;> omega)) (fun c_19 => ?_) (fun c_19 => by exact absurd c_19 (by decide))
      refine j_iconst dX12_cheque_26 ?_
      refine j_iconst dX12_cheque_27 ?_
      refine r_cv2I dX12_cheque_28 cvX12_253 (by decide) (by first | assumption | exact hsh _ _ rfl) (Nat.le_of_ble_eq_true rfl) (Nat.le_of_eq (Nat.zero_add _)) (Nat.le_of_eq (Nat.zero_add _)) (sm_thr0 hsh) ?_
      refine j_if_ne (tgt := 115) dX12_cheque_31 rfl (by first | omega | (split <;> omega)) (fun c_31 => by exact absurd c_31 (by decide)) (fun c_31 => ?_)
      refine j_aload_n dX12_cheque_34 rfl ?_
      refine j_iload_n dX12_cheque_35 rfl ?_
      refine j_iload_n dX12_cheque_36 rfl ?_
      refine j_icmp_eq (tgt := 67) dX12_cheque_37 rfl (by first | omega | (split <;> omega)) (by first | omega | (split <;> omega)) (fun c_37 => by exact absurd c_37 e) (fun c_37 => ?_)
      refine j_iload_n dX12_cheque_40 rfl ?_
      refine j_iconst dX12_cheque_41 ?_
      refine j_aload_n dX12_cheque_42 rfl ?_
      refine j_iload_n dX12_cheque_43 rfl ?_
      refine j_iconst dX12_cheque_44 ?_
      refine r_cv2J dX12_cheque_45 cvX12_68 (by decide) (by first | assumption | exact hsh _ _ rfl) (Nat.le_of_ble_eq_true rfl) (Nat.le_of_eq (Nat.zero_add _)) (Nat.le_of_eq (Nat.zero_add _)) (sm_of hsh hfx (by omega)) (hok.2.1 171 _) (fun b_45 => ?_)
      refine r_cs3I dX12_cheque_48 csX12_78 (Nat.le_of_ble_eq_true rfl) (Nat.le_of_eq (Nat.zero_add _)) (Nat.le_of_eq (Nat.zero_add _)) (sm_in0 (by omega) (by omega) (by omega) e2) ?_
      refine j_if_eq (tgt := 67) dX12_cheque_51 rfl (by first | omega | (split <;> omega)) (fun c_51 => ?_) (fun c_51 => by exact absurd c_51 (by decide))
      refine j_iconst dX12_cheque_67 ?_
      refine j_goto (tgt := 72) dX12_cheque_68 rfl ?_
      refine j_iconst dX12_cheque_72 ?_
      refine r_cv2I dX12_cheque_73 cvX12_253 (by decide) (by first | assumption | exact hsh _ _ rfl) (Nat.le_of_ble_eq_true rfl) (Nat.le_of_eq (Nat.zero_add _)) (Nat.le_of_eq (Nat.zero_add _)) (sm_thr1 hsh (by omega)) ?_
      refine j_if_ne (tgt := 115) dX12_cheque_76 rfl (by first | omega | (split <;> omega)) (fun c_76 => ?_) (fun c_76 => by exact absurd c_76 (by decide))
      refine j_iconst dX12_cheque_115 ?_
      refine j_iret dX12_cheque_116 rfl ?_
      exact rI_of rfl rfl
theorem mp_cheque_3 (hsh : ShOK sh) (hfx : FxOK F) (hW : WF (I 171)) (hr : 0 ≤ I 170 7 ∧ I 170 7 ≤ 12) {p q n : Int} (h1 : gP (I 171) p ∧ gP (I 171) q) (h2 : ¬ p = q ∧ (1 ≤ n ∧ n ≤ aOf (I 171) p 1) ∧ aOf (I 171) q 1 + n ≤ 99999) (h3 : ¬ (aOf (I 171) p 3 = 0 ∧ aOf (I 171) q 3 = 0 ∧ ¬ I 171 8 = 1)) : jS G (d + 6) mX12_cheque [jR (some 170), jI p, jI q, jI n] (sh, I, F) 0 0 (rI (0) (sh, jup I 170 0 3, F)) := by
  have hP : WfP (I 171) := hW.1
  have g8 : aPe (I 171) ≤ 8 := hP.2
  have gp : 0 ≤ p ∧ p < 8 := by have := h1.1.1; have := h1.1.2; omega
  have gq : 0 ≤ q ∧ q < 8 := by have := h1.2.1; have := h1.2.2; omega
  refine jS_go [some (jR (some 170)), some (jI p), some (jI q), some (jI n), none] (by decide +kernel) rfl (by simp [jone]) (Nat.le_of_ble_eq_true rfl) rfl (fun hok => ?_)
  refine j_aload_n dX12_cheque_0 rfl ?_
  refine j_iconst dX12_cheque_1 ?_
  refine r_putI dX12_cheque_2 flX12_3 rfl (by first | assumption | exact hsh _ _ rfl) (by first | omega | (split <;> omega)) (fun q => by cases q) ?_
  skip
  have hok1 : jzok (sh, jup I 170 0 0, F) := jzok_I hok jin_lit0
  have hw0 : (jup I 170 0 0) 171 = I 171 := jup_ne _ _ _ (by decide)
  clear hok
  rw [← jup_up I 170 0 0 3]
  rw [← hw0] at hP h1 h2 h3 hW
  try rw [← hw0]
  obtain ⟨I1, hI1⟩ : ∃ J, J = jup I 170 0 0 := ⟨_, rfl⟩
  rw [← hI1] at hok1 hw0 hP h1 h2 h3 hW ⊢
  have hok := hok1
  have q1 := (hW.2.1.2.2 p gp.1 (by have := h1.1.2; omega)).2.1
  have q2 := (hW.2.1.2.2 q gq.1 (by have := h1.2.2; omega)).2.1
  by_cases e : aOf (I1 171) p 3 = 0
  · by_cases e1 : aOf (I1 171) q 3 = 0
    · have e2 : I1 171 8 = 1 := Classical.not_not.1 (fun q => h3 ⟨e, e1, q⟩)
      refine j_aload_n dX12_cheque_5 rfl ?_
      refine j_aload_n dX12_cheque_6 rfl ?_
      refine j_iload_n dX12_cheque_7 rfl ?_
      refine r_cv1I dX12_cheque_8 cvX12_335 (by decide) (by first | assumption | exact hsh _ _ rfl) (Nat.le_of_ble_eq_true rfl) (Nat.le_of_eq (Nat.zero_add _)) (Nat.le_of_eq (Nat.zero_add _)) (sm_noP0 hsh hfx hok (by omega) hP h1.1) ?_
      refine j_if_ne (tgt := 22) dX12_cheque_11 rfl (by first | omega | (split <;> omega)) (fun c_11 => by exact absurd c_11 (by decide)) (fun c_11 => ?_)
      refine j_aload_n dX12_cheque_14 rfl ?_
      refine j_iload_n dX12_cheque_15 rfl ?_
      refine r_cv1I dX12_cheque_16 cvX12_335 (by decide) (by first | assumption | exact hsh _ _ rfl) (Nat.le_of_ble_eq_true rfl) (Nat.le_of_eq (Nat.zero_add _)) (Nat.le_of_eq (Nat.zero_add _)) (sm_noP0 hsh hfx hok (by omega) hP h1.2) ?_
      refine j_if_eq (tgt := 26) dX12_cheque_19 rfl (by first | omega | (split <;> omega)) (fun c_19 => ?_) (fun c_19 => by exact absurd c_19 (by decide))
      refine j_iconst dX12_cheque_26 ?_
      refine j_iconst dX12_cheque_27 ?_
      refine r_cv2I dX12_cheque_28 cvX12_253 (by decide) (by first | assumption | exact hsh _ _ rfl) (Nat.le_of_ble_eq_true rfl) (Nat.le_of_eq (Nat.zero_add _)) (Nat.le_of_eq (Nat.zero_add _)) (sm_thr0 hsh) ?_
      refine j_if_ne (tgt := 115) dX12_cheque_31 rfl (by first | omega | (split <;> omega)) (fun c_31 => by exact absurd c_31 (by decide)) (fun c_31 => ?_)
      refine j_aload_n dX12_cheque_34 rfl ?_
      refine j_iload_n dX12_cheque_35 rfl ?_
      refine j_iload_n dX12_cheque_36 rfl ?_
      refine j_icmp_eq (tgt := 67) dX12_cheque_37 rfl (by first | omega | (split <;> omega)) (by first | omega | (split <;> omega)) (fun c_37 => by exact absurd c_37 h2.1) (fun c_37 => ?_)
      refine j_iload_n dX12_cheque_40 rfl ?_
      refine j_iconst dX12_cheque_41 ?_
      refine j_aload_n dX12_cheque_42 rfl ?_
      refine j_iload_n dX12_cheque_43 rfl ?_
      refine j_iconst dX12_cheque_44 ?_
      refine r_cv2J dX12_cheque_45 cvX12_68 (by decide) (by first | assumption | exact hsh _ _ rfl) (Nat.le_of_ble_eq_true rfl) (Nat.le_of_eq (Nat.zero_add _)) (Nat.le_of_eq (Nat.zero_add _)) (sm_of hsh hfx (by omega)) (hok.2.1 171 _) (fun b_45 => ?_)
      refine r_cs3I dX12_cheque_48 csX12_78 (Nat.le_of_ble_eq_true rfl) (Nat.le_of_eq (Nat.zero_add _)) (Nat.le_of_eq (Nat.zero_add _)) (sm_in1 (by omega) (by omega) (by omega) h2.2.1) ?_
      refine j_if_eq (tgt := 67) dX12_cheque_51 rfl (by first | omega | (split <;> omega)) (fun c_51 => by exact absurd c_51 (by decide)) (fun c_51 => ?_)
      refine j_aload_n dX12_cheque_54 rfl ?_
      refine j_iload_n dX12_cheque_55 rfl ?_
      refine j_iconst dX12_cheque_56 ?_
      refine r_cv2J dX12_cheque_57 cvX12_68 (by decide) (by first | assumption | exact hsh _ _ rfl) (Nat.le_of_ble_eq_true rfl) (Nat.le_of_eq (Nat.zero_add _)) (Nat.le_of_eq (Nat.zero_add _)) (sm_of hsh hfx (by omega)) (hok.2.1 171 _) (fun b_57 => ?_)
      refine j_iload_n dX12_cheque_60 rfl ?_
      refine j_iadd dX12_cheque_61 ?_
      refine j_ldc (n := 99999) dX12_cheque_62 kcX12_140 ?_
      refine j_icmp_le (tgt := 71) dX12_cheque_64 rfl (by first | omega | (split <;> omega)) (by first | omega | (split <;> omega)) (fun c_64 => ?_) (fun c_64 => by exact absurd h2.2.2 c_64)
      refine j_iconst dX12_cheque_71 ?_
      refine j_iconst dX12_cheque_72 ?_
      refine r_cv2I dX12_cheque_73 cvX12_253 (by decide) (by first | assumption | exact hsh _ _ rfl) (Nat.le_of_ble_eq_true rfl) (Nat.le_of_eq (Nat.zero_add _)) (Nat.le_of_eq (Nat.zero_add _)) (sm_thr0 hsh) ?_
      refine j_if_ne (tgt := 115) dX12_cheque_76 rfl (by first | omega | (split <;> omega)) (fun c_76 => by exact absurd c_76 (by decide)) (fun c_76 => ?_)
      refine j_aload_n dX12_cheque_79 rfl ?_
      refine j_aload_n dX12_cheque_80 rfl ?_
      refine j_iload_n dX12_cheque_81 rfl ?_
      refine r_cv1I dX12_cheque_82 cvX12_296 (by decide) (by first | assumption | exact hsh _ _ rfl) (Nat.le_of_ble_eq_true rfl) (Nat.le_of_eq (Nat.zero_add _)) (Nat.le_of_eq (Nat.zero_add _)) (sm_al1 hsh hfx (by omega) e) ?_
      refine j_if_eq (tgt := 103) dX12_cheque_85 rfl (by first | omega | (split <;> omega)) (fun c_85 => by exact absurd c_85 (by decide)) (fun c_85 => ?_)
      refine j_aload_n dX12_cheque_88 rfl ?_
      refine j_iload_n dX12_cheque_89 rfl ?_
      refine r_cv1I dX12_cheque_90 cvX12_296 (by decide) (by first | assumption | exact hsh _ _ rfl) (Nat.le_of_ble_eq_true rfl) (Nat.le_of_eq (Nat.zero_add _)) (Nat.le_of_eq (Nat.zero_add _)) (sm_al1 hsh hfx (by omega) e1) ?_
      refine j_if_eq (tgt := 103) dX12_cheque_93 rfl (by first | omega | (split <;> omega)) (fun c_93 => by exact absurd c_93 (by decide)) (fun c_93 => ?_)
      refine j_aload_n dX12_cheque_96 rfl ?_
      refine r_cv0I dX12_cheque_97 cvX12_268 (by decide) (by first | assumption | exact hsh _ _ rfl) (Nat.le_of_ble_eq_true rfl) (Nat.le_of_eq (Nat.zero_add _)) (Nat.le_of_eq (Nat.zero_add _)) (sm_fl1 hsh hfx e2) ?_
      refine j_if_eq (tgt := 107) dX12_cheque_100 rfl (by first | omega | (split <;> omega)) (fun c_100 => by exact absurd c_100 (by decide)) (fun c_100 => ?_)
      refine j_iconst dX12_cheque_103 ?_
      refine j_goto (tgt := 108) dX12_cheque_104 rfl ?_
      refine j_iconst dX12_cheque_108 ?_
      refine r_cv2I dX12_cheque_109 cvX12_253 (by decide) (by first | assumption | exact hsh _ _ rfl) (Nat.le_of_ble_eq_true rfl) (Nat.le_of_eq (Nat.zero_add _)) (Nat.le_of_eq (Nat.zero_add _)) (sm_thr1 hsh (by omega)) ?_
      refine j_if_eq (tgt := 117) dX12_cheque_112 rfl (by first | omega | (split <;> omega)) (fun c_112 => by exact absurd c_112 (by decide)) (fun c_112 => ?_)
      refine j_iconst dX12_cheque_115 ?_
      refine j_iret dX12_cheque_116 rfl ?_
      exact rI_of rfl rfl
    · refine j_aload_n dX12_cheque_5 rfl ?_
      refine j_aload_n dX12_cheque_6 rfl ?_
      refine j_iload_n dX12_cheque_7 rfl ?_
      refine r_cv1I dX12_cheque_8 cvX12_335 (by decide) (by first | assumption | exact hsh _ _ rfl) (Nat.le_of_ble_eq_true rfl) (Nat.le_of_eq (Nat.zero_add _)) (Nat.le_of_eq (Nat.zero_add _)) (sm_noP0 hsh hfx hok (by omega) hP h1.1) ?_
      refine j_if_ne (tgt := 22) dX12_cheque_11 rfl (by first | omega | (split <;> omega)) (fun c_11 => by exact absurd c_11 (by decide)) (fun c_11 => ?_)
      refine j_aload_n dX12_cheque_14 rfl ?_
      refine j_iload_n dX12_cheque_15 rfl ?_
      refine r_cv1I dX12_cheque_16 cvX12_335 (by decide) (by first | assumption | exact hsh _ _ rfl) (Nat.le_of_ble_eq_true rfl) (Nat.le_of_eq (Nat.zero_add _)) (Nat.le_of_eq (Nat.zero_add _)) (sm_noP0 hsh hfx hok (by omega) hP h1.2) ?_
      refine j_if_eq (tgt := 26) dX12_cheque_19 rfl (by first | omega | (split <;> omega)) (fun c_19 => ?_) (fun c_19 => by exact absurd c_19 (by decide))
      refine j_iconst dX12_cheque_26 ?_
      refine j_iconst dX12_cheque_27 ?_
      refine r_cv2I dX12_cheque_28 cvX12_253 (by decide) (by first | assumption | exact hsh _ _ rfl) (Nat.le_of_ble_eq_true rfl) (Nat.le_of_eq (Nat.zero_add _)) (Nat.le_of_eq (Nat.zero_add _)) (sm_thr0 hsh) ?_
      refine j_if_ne (tgt := 115) dX12_cheque_31 rfl (by first | omega | (split <;> omega)) (fun c_31 => by exact absurd c_31 (by decide)) (fun c_31 => ?_)
      refine j_aload_n dX12_cheque_34 rfl ?_
      refine j_iload_n dX12_cheque_35 rfl ?_
      refine j_iload_n dX12_cheque_36 rfl ?_
      refine j_icmp_eq (tgt := 67) dX12_cheque_37 rfl (by first | omega | (split <;> omega)) (by first | omega | (split <;> omega)) (fun c_37 => by exact absurd c_37 h2.1) (fun c_37 => ?_)
      refine j_iload_n dX12_cheque_40 rfl ?_
      refine j_iconst dX12_cheque_41 ?_
      refine j_aload_n dX12_cheque_42 rfl ?_
      refine j_iload_n dX12_cheque_43 rfl ?_
      refine j_iconst dX12_cheque_44 ?_
      refine r_cv2J dX12_cheque_45 cvX12_68 (by decide) (by first | assumption | exact hsh _ _ rfl) (Nat.le_of_ble_eq_true rfl) (Nat.le_of_eq (Nat.zero_add _)) (Nat.le_of_eq (Nat.zero_add _)) (sm_of hsh hfx (by omega)) (hok.2.1 171 _) (fun b_45 => ?_)
      refine r_cs3I dX12_cheque_48 csX12_78 (Nat.le_of_ble_eq_true rfl) (Nat.le_of_eq (Nat.zero_add _)) (Nat.le_of_eq (Nat.zero_add _)) (sm_in1 (by omega) (by omega) (by omega) h2.2.1) ?_
      refine j_if_eq (tgt := 67) dX12_cheque_51 rfl (by first | omega | (split <;> omega)) (fun c_51 => by exact absurd c_51 (by decide)) (fun c_51 => ?_)
      refine j_aload_n dX12_cheque_54 rfl ?_
      refine j_iload_n dX12_cheque_55 rfl ?_
      refine j_iconst dX12_cheque_56 ?_
      refine r_cv2J dX12_cheque_57 cvX12_68 (by decide) (by first | assumption | exact hsh _ _ rfl) (Nat.le_of_ble_eq_true rfl) (Nat.le_of_eq (Nat.zero_add _)) (Nat.le_of_eq (Nat.zero_add _)) (sm_of hsh hfx (by omega)) (hok.2.1 171 _) (fun b_57 => ?_)
      refine j_iload_n dX12_cheque_60 rfl ?_
      refine j_iadd dX12_cheque_61 ?_
      refine j_ldc (n := 99999) dX12_cheque_62 kcX12_140 ?_
      refine j_icmp_le (tgt := 71) dX12_cheque_64 rfl (by first | omega | (split <;> omega)) (by first | omega | (split <;> omega)) (fun c_64 => ?_) (fun c_64 => by exact absurd h2.2.2 c_64)
      refine j_iconst dX12_cheque_71 ?_
      refine j_iconst dX12_cheque_72 ?_
      refine r_cv2I dX12_cheque_73 cvX12_253 (by decide) (by first | assumption | exact hsh _ _ rfl) (Nat.le_of_ble_eq_true rfl) (Nat.le_of_eq (Nat.zero_add _)) (Nat.le_of_eq (Nat.zero_add _)) (sm_thr0 hsh) ?_
      refine j_if_ne (tgt := 115) dX12_cheque_76 rfl (by first | omega | (split <;> omega)) (fun c_76 => by exact absurd c_76 (by decide)) (fun c_76 => ?_)
      refine j_aload_n dX12_cheque_79 rfl ?_
      refine j_aload_n dX12_cheque_80 rfl ?_
      refine j_iload_n dX12_cheque_81 rfl ?_
      refine r_cv1I dX12_cheque_82 cvX12_296 (by decide) (by first | assumption | exact hsh _ _ rfl) (Nat.le_of_ble_eq_true rfl) (Nat.le_of_eq (Nat.zero_add _)) (Nat.le_of_eq (Nat.zero_add _)) (sm_al1 hsh hfx (by omega) e) ?_
      refine j_if_eq (tgt := 103) dX12_cheque_85 rfl (by first | omega | (split <;> omega)) (fun c_85 => by exact absurd c_85 (by decide)) (fun c_85 => ?_)
      refine j_aload_n dX12_cheque_88 rfl ?_
      refine j_iload_n dX12_cheque_89 rfl ?_
      refine r_cv1I dX12_cheque_90 cvX12_296 (by decide) (by first | assumption | exact hsh _ _ rfl) (Nat.le_of_ble_eq_true rfl) (Nat.le_of_eq (Nat.zero_add _)) (Nat.le_of_eq (Nat.zero_add _)) (sm_al0 hsh hfx (by omega) e1) ?_
      refine j_if_eq (tgt := 103) dX12_cheque_93 rfl (by first | omega | (split <;> omega)) (fun c_93 => ?_) (fun c_93 => by exact absurd c_93 (by decide))
      refine j_iconst dX12_cheque_103 ?_
      refine j_goto (tgt := 108) dX12_cheque_104 rfl ?_
      refine j_iconst dX12_cheque_108 ?_
      refine r_cv2I dX12_cheque_109 cvX12_253 (by decide) (by first | assumption | exact hsh _ _ rfl) (Nat.le_of_ble_eq_true rfl) (Nat.le_of_eq (Nat.zero_add _)) (Nat.le_of_eq (Nat.zero_add _)) (sm_thr1 hsh (by omega)) ?_
      refine j_if_eq (tgt := 117) dX12_cheque_112 rfl (by first | omega | (split <;> omega)) (fun c_112 => by exact absurd c_112 (by decide)) (fun c_112 => ?_)
      refine j_iconst dX12_cheque_115 ?_
      refine j_iret dX12_cheque_116 rfl ?_
      exact rI_of rfl rfl
  · refine j_aload_n dX12_cheque_5 rfl ?_
    refine j_aload_n dX12_cheque_6 rfl ?_
    refine j_iload_n dX12_cheque_7 rfl ?_
    refine r_cv1I dX12_cheque_8 cvX12_335 (by decide) (by first | assumption | exact hsh _ _ rfl) (Nat.le_of_ble_eq_true rfl) (Nat.le_of_eq (Nat.zero_add _)) (Nat.le_of_eq (Nat.zero_add _)) (sm_noP0 hsh hfx hok (by omega) hP h1.1) ?_
    refine j_if_ne (tgt := 22) dX12_cheque_11 rfl (by first | omega | (split <;> omega)) (fun c_11 => by exact absurd c_11 (by decide)) (fun c_11 => ?_)
    refine j_aload_n dX12_cheque_14 rfl ?_
    refine j_iload_n dX12_cheque_15 rfl ?_
    refine r_cv1I dX12_cheque_16 cvX12_335 (by decide) (by first | assumption | exact hsh _ _ rfl) (Nat.le_of_ble_eq_true rfl) (Nat.le_of_eq (Nat.zero_add _)) (Nat.le_of_eq (Nat.zero_add _)) (sm_noP0 hsh hfx hok (by omega) hP h1.2) ?_
    refine j_if_eq (tgt := 26) dX12_cheque_19 rfl (by first | omega | (split <;> omega)) (fun c_19 => ?_) (fun c_19 => by exact absurd c_19 (by decide))
    refine j_iconst dX12_cheque_26 ?_
    refine j_iconst dX12_cheque_27 ?_
    refine r_cv2I dX12_cheque_28 cvX12_253 (by decide) (by first | assumption | exact hsh _ _ rfl) (Nat.le_of_ble_eq_true rfl) (Nat.le_of_eq (Nat.zero_add _)) (Nat.le_of_eq (Nat.zero_add _)) (sm_thr0 hsh) ?_
    refine j_if_ne (tgt := 115) dX12_cheque_31 rfl (by first | omega | (split <;> omega)) (fun c_31 => by exact absurd c_31 (by decide)) (fun c_31 => ?_)
    refine j_aload_n dX12_cheque_34 rfl ?_
    refine j_iload_n dX12_cheque_35 rfl ?_
    refine j_iload_n dX12_cheque_36 rfl ?_
    refine j_icmp_eq (tgt := 67) dX12_cheque_37 rfl (by first | omega | (split <;> omega)) (by first | omega | (split <;> omega)) (fun c_37 => by exact absurd c_37 h2.1) (fun c_37 => ?_)
    refine j_iload_n dX12_cheque_40 rfl ?_
    refine j_iconst dX12_cheque_41 ?_
    refine j_aload_n dX12_cheque_42 rfl ?_
    refine j_iload_n dX12_cheque_43 rfl ?_
    refine j_iconst dX12_cheque_44 ?_
    refine r_cv2J dX12_cheque_45 cvX12_68 (by decide) (by first | assumption | exact hsh _ _ rfl) (Nat.le_of_ble_eq_true rfl) (Nat.le_of_eq (Nat.zero_add _)) (Nat.le_of_eq (Nat.zero_add _)) (sm_of hsh hfx (by omega)) (hok.2.1 171 _) (fun b_45 => ?_)
    refine r_cs3I dX12_cheque_48 csX12_78 (Nat.le_of_ble_eq_true rfl) (Nat.le_of_eq (Nat.zero_add _)) (Nat.le_of_eq (Nat.zero_add _)) (sm_in1 (by omega) (by omega) (by omega) h2.2.1) ?_
    refine j_if_eq (tgt := 67) dX12_cheque_51 rfl (by first | omega | (split <;> omega)) (fun c_51 => by exact absurd c_51 (by decide)) (fun c_51 => ?_)
    refine j_aload_n dX12_cheque_54 rfl ?_
    refine j_iload_n dX12_cheque_55 rfl ?_
    refine j_iconst dX12_cheque_56 ?_
    refine r_cv2J dX12_cheque_57 cvX12_68 (by decide) (by first | assumption | exact hsh _ _ rfl) (Nat.le_of_ble_eq_true rfl) (Nat.le_of_eq (Nat.zero_add _)) (Nat.le_of_eq (Nat.zero_add _)) (sm_of hsh hfx (by omega)) (hok.2.1 171 _) (fun b_57 => ?_)
    refine j_iload_n dX12_cheque_60 rfl ?_
    refine j_iadd dX12_cheque_61 ?_
    refine j_ldc (n := 99999) dX12_cheque_62 kcX12_140 ?_
    refine j_icmp_le (tgt := 71) dX12_cheque_64 rfl (by first | omega | (split <;> omega)) (by first | omega | (split <;> omega)) (fun c_64 => ?_) (fun c_64 => by exact absurd h2.2.2 c_64)
    refine j_iconst dX12_cheque_71 ?_
    refine j_iconst dX12_cheque_72 ?_
    refine r_cv2I dX12_cheque_73 cvX12_253 (by decide) (by first | assumption | exact hsh _ _ rfl) (Nat.le_of_ble_eq_true rfl) (Nat.le_of_eq (Nat.zero_add _)) (Nat.le_of_eq (Nat.zero_add _)) (sm_thr0 hsh) ?_
    refine j_if_ne (tgt := 115) dX12_cheque_76 rfl (by first | omega | (split <;> omega)) (fun c_76 => by exact absurd c_76 (by decide)) (fun c_76 => ?_)
    refine j_aload_n dX12_cheque_79 rfl ?_
    refine j_aload_n dX12_cheque_80 rfl ?_
    refine j_iload_n dX12_cheque_81 rfl ?_
    refine r_cv1I dX12_cheque_82 cvX12_296 (by decide) (by first | assumption | exact hsh _ _ rfl) (Nat.le_of_ble_eq_true rfl) (Nat.le_of_eq (Nat.zero_add _)) (Nat.le_of_eq (Nat.zero_add _)) (sm_al0 hsh hfx (by omega) e) ?_
    refine j_if_eq (tgt := 103) dX12_cheque_85 rfl (by first | omega | (split <;> omega)) (fun c_85 => ?_) (fun c_85 => by exact absurd c_85 (by decide))
    refine j_iconst dX12_cheque_103 ?_
    refine j_goto (tgt := 108) dX12_cheque_104 rfl ?_
    refine j_iconst dX12_cheque_108 ?_
    refine r_cv2I dX12_cheque_109 cvX12_253 (by decide) (by first | assumption | exact hsh _ _ rfl) (Nat.le_of_ble_eq_true rfl) (Nat.le_of_eq (Nat.zero_add _)) (Nat.le_of_eq (Nat.zero_add _)) (sm_thr1 hsh (by omega)) ?_
    refine j_if_eq (tgt := 117) dX12_cheque_112 rfl (by first | omega | (split <;> omega)) (fun c_112 => by exact absurd c_112 (by decide)) (fun c_112 => ?_)
    refine j_iconst dX12_cheque_115 ?_
    refine j_iret dX12_cheque_116 rfl ?_
    exact rI_of rfl rfl
theorem mp_cheque_0 (hsh : ShOK sh) (hfx : FxOK F) (hW : WF (I 171)) (hr : 0 ≤ I 170 7 ∧ I 170 7 ≤ 12) {p q n : Int} (h1 : gP (I 171) p ∧ gP (I 171) q) (h2 : ¬ p = q ∧ (1 ≤ n ∧ n ≤ aOf (I 171) p 1) ∧ aOf (I 171) q 1 + n ≤ 99999) (h3 : aOf (I 171) p 3 = 0 ∧ aOf (I 171) q 3 = 0 ∧ ¬ I 171 8 = 1) : jS G (d + 6) mX12_cheque [jR (some 170), jI p, jI q, jI n] (sh, I, F) 0 0 (rEI (aOf (I 171) q 1 + n) sh F (AcO 0 I (mzW (mzR I) (wCheq (I 171) p q n)))) := by
  have hP : WfP (I 171) := hW.1
  have g8 : aPe (I 171) ≤ 8 := hP.2
  have gp : 0 ≤ p ∧ p < 8 := by have := h1.1.1; have := h1.1.2; omega
  have gq : 0 ≤ q ∧ q < 8 := by have := h1.2.1; have := h1.2.2; omega
  have q1 := (hW.2.1.2.2 p gp.1 (by have := h1.1.2; omega)).2
  have q2 := (hW.2.1.2.2 q gq.1 (by have := h1.2.2; omega)).2
  have q1o := q1
  have q2o := q2
  refine jS_go [some (jR (some 170)), some (jI p), some (jI q), some (jI n), none] (by decide +kernel) rfl (by simp [jone]) (Nat.le_of_ble_eq_true rfl) rfl (fun hok => ?_)
  refine j_aload_n dX12_cheque_0 rfl ?_
  refine j_iconst dX12_cheque_1 ?_
  refine r_putI dX12_cheque_2 flX12_3 rfl (by first | assumption | exact hsh _ _ rfl) (by first | omega | (split <;> omega)) (fun q => by cases q) ?_
  skip
  have hok1 : jzok (sh, jup I 170 0 0, F) := jzok_I hok jin_lit0
  obtain ⟨I1, hI1⟩ : ∃ J, J = jup I 170 0 0 := ⟨_, rfl⟩
  rw [← hI1] at hok1 ⊢
  have hok0 := hok
  clear hok
  have hok := hok1
  have fr1 : ∀ a, a ≠ 170 → I1 a = I a := fun a ha => by rw [hI1, jup_ne _ _ _ ha]
  have fr1k : ∀ k, k ≠ 0 → I1 170 k = I 170 k := fun k hk => by rw [hI1, jup_row _ _ _ hk]
  have fr1c : I1 170 0 = 0 := by rw [hI1, jup_same]
  have hw0 : I1 171 = I 171 := fr1 171 (by decide)
  rw [← hw0] at hP h1 h2 h3 q1 q2
  have hr7 : I1 170 7 = I 170 7 := fr1k 7 (by decide)
  have hpq : ¬ p = q := h2.1
  obtain ⟨b1, b2⟩ : (1 ≤ n ∧ n ≤ aOf (I 171) p 1) ∧ aOf (I 171) q 1 + n ≤ 99999 := by rw [← hw0]; exact h2.2
  have eA : ∀ (J : Nat → Int → Int) (x : Int), J 171 = I 171 → J 171 x = I 171 x := fun J x h => by rw [h]
  obtain ⟨a, hA⟩ : ∃ x, aOf (I 171) p 1 = x := ⟨_, rfl⟩
  refine j_aload_n dX12_cheque_5 rfl ?_
  refine j_aload_n dX12_cheque_6 rfl ?_
  refine j_iload_n dX12_cheque_7 rfl ?_
  refine r_cv1I dX12_cheque_8 cvX12_335 (by decide) (by first | assumption | exact hsh _ _ rfl) (Nat.le_of_ble_eq_true rfl) (Nat.le_of_eq (Nat.zero_add _)) (Nat.le_of_eq (Nat.zero_add _)) (sm_noP0 hsh hfx hok (by omega) hP h1.1) ?_
  refine j_if_ne (tgt := 22) dX12_cheque_11 rfl (by first | omega | (split <;> omega)) (fun c_11 => by exact absurd c_11 (by decide)) (fun c_11 => ?_)
  refine j_aload_n dX12_cheque_14 rfl ?_
  refine j_iload_n dX12_cheque_15 rfl ?_
  refine r_cv1I dX12_cheque_16 cvX12_335 (by decide) (by first | assumption | exact hsh _ _ rfl) (Nat.le_of_ble_eq_true rfl) (Nat.le_of_eq (Nat.zero_add _)) (Nat.le_of_eq (Nat.zero_add _)) (sm_noP0 hsh hfx hok (by omega) hP h1.2) ?_
  refine j_if_eq (tgt := 26) dX12_cheque_19 rfl (by first | omega | (split <;> omega)) (fun c_19 => ?_) (fun c_19 => by exact absurd c_19 (by decide))
  refine j_iconst dX12_cheque_26 ?_
  refine j_iconst dX12_cheque_27 ?_
  refine r_cv2I dX12_cheque_28 cvX12_253 (by decide) (by first | assumption | exact hsh _ _ rfl) (Nat.le_of_ble_eq_true rfl) (Nat.le_of_eq (Nat.zero_add _)) (Nat.le_of_eq (Nat.zero_add _)) (sm_thr0 hsh) ?_
  refine j_if_ne (tgt := 115) dX12_cheque_31 rfl (by first | omega | (split <;> omega)) (fun c_31 => by exact absurd c_31 (by decide)) (fun c_31 => ?_)
  refine j_aload_n dX12_cheque_34 rfl ?_
  refine j_iload_n dX12_cheque_35 rfl ?_
  refine j_iload_n dX12_cheque_36 rfl ?_
  refine j_icmp_eq (tgt := 67) dX12_cheque_37 rfl (by first | omega | (split <;> omega)) (by first | omega | (split <;> omega)) (fun c_37 => by exact absurd c_37 h2.1) (fun c_37 => ?_)
  refine j_iload_n dX12_cheque_40 rfl ?_
  refine j_iconst dX12_cheque_41 ?_
  refine j_aload_n dX12_cheque_42 rfl ?_
  refine j_iload_n dX12_cheque_43 rfl ?_
  refine j_iconst dX12_cheque_44 ?_
  refine r_cv2J dX12_cheque_45 cvX12_68 (by decide) (by first | assumption | exact hsh _ _ rfl) (Nat.le_of_ble_eq_true rfl) (Nat.le_of_eq (Nat.zero_add _)) (Nat.le_of_eq (Nat.zero_add _)) (sm_of hsh hfx (by omega)) (hok.2.1 171 _) (fun b_45 => ?_)
  refine r_cs3I dX12_cheque_48 csX12_78 (Nat.le_of_ble_eq_true rfl) (Nat.le_of_eq (Nat.zero_add _)) (Nat.le_of_eq (Nat.zero_add _)) (sm_in1 (by omega) (by omega) (by omega) h2.2.1) ?_
  refine j_if_eq (tgt := 67) dX12_cheque_51 rfl (by first | omega | (split <;> omega)) (fun c_51 => by exact absurd c_51 (by decide)) (fun c_51 => ?_)
  refine j_aload_n dX12_cheque_54 rfl ?_
  refine j_iload_n dX12_cheque_55 rfl ?_
  refine j_iconst dX12_cheque_56 ?_
  refine r_cv2J dX12_cheque_57 cvX12_68 (by decide) (by first | assumption | exact hsh _ _ rfl) (Nat.le_of_ble_eq_true rfl) (Nat.le_of_eq (Nat.zero_add _)) (Nat.le_of_eq (Nat.zero_add _)) (sm_of hsh hfx (by omega)) (hok.2.1 171 _) (fun b_57 => ?_)
  refine j_iload_n dX12_cheque_60 rfl ?_
  refine j_iadd dX12_cheque_61 ?_
  refine j_ldc (n := 99999) dX12_cheque_62 kcX12_140 ?_
  refine j_icmp_le (tgt := 71) dX12_cheque_64 rfl (by first | omega | (split <;> omega)) (by first | omega | (split <;> omega)) (fun c_64 => ?_) (fun c_64 => by exact absurd h2.2.2 c_64)
  refine j_iconst dX12_cheque_71 ?_
  refine j_iconst dX12_cheque_72 ?_
  refine r_cv2I dX12_cheque_73 cvX12_253 (by decide) (by first | assumption | exact hsh _ _ rfl) (Nat.le_of_ble_eq_true rfl) (Nat.le_of_eq (Nat.zero_add _)) (Nat.le_of_eq (Nat.zero_add _)) (sm_thr0 hsh) ?_
  refine j_if_ne (tgt := 115) dX12_cheque_76 rfl (by first | omega | (split <;> omega)) (fun c_76 => by exact absurd c_76 (by decide)) (fun c_76 => ?_)
  refine j_aload_n dX12_cheque_79 rfl ?_
  refine j_aload_n dX12_cheque_80 rfl ?_
  refine j_iload_n dX12_cheque_81 rfl ?_
  refine r_cv1I dX12_cheque_82 cvX12_296 (by decide) (by first | assumption | exact hsh _ _ rfl) (Nat.le_of_ble_eq_true rfl) (Nat.le_of_eq (Nat.zero_add _)) (Nat.le_of_eq (Nat.zero_add _)) (sm_al1 hsh hfx (by omega) h3.1) ?_
  refine j_if_eq (tgt := 103) dX12_cheque_85 rfl (by first | omega | (split <;> omega)) (fun c_85 => by exact absurd c_85 (by decide)) (fun c_85 => ?_)
  refine j_aload_n dX12_cheque_88 rfl ?_
  refine j_iload_n dX12_cheque_89 rfl ?_
  refine r_cv1I dX12_cheque_90 cvX12_296 (by decide) (by first | assumption | exact hsh _ _ rfl) (Nat.le_of_ble_eq_true rfl) (Nat.le_of_eq (Nat.zero_add _)) (Nat.le_of_eq (Nat.zero_add _)) (sm_al1 hsh hfx (by omega) h3.2.1) ?_
  refine j_if_eq (tgt := 103) dX12_cheque_93 rfl (by first | omega | (split <;> omega)) (fun c_93 => by exact absurd c_93 (by decide)) (fun c_93 => ?_)
  refine j_aload_n dX12_cheque_96 rfl ?_
  refine r_cv0I dX12_cheque_97 cvX12_268 (by decide) (by first | assumption | exact hsh _ _ rfl) (Nat.le_of_ble_eq_true rfl) (Nat.le_of_eq (Nat.zero_add _)) (Nat.le_of_eq (Nat.zero_add _)) (sm_fl0 hsh hfx h3.2.2) ?_
  refine j_if_eq (tgt := 107) dX12_cheque_100 rfl (by first | omega | (split <;> omega)) (fun c_100 => ?_) (fun c_100 => by exact absurd c_100 (by decide))
  refine j_iconst dX12_cheque_107 ?_
  refine j_iconst dX12_cheque_108 ?_
  refine r_cv2I dX12_cheque_109 cvX12_253 (by decide) (by first | assumption | exact hsh _ _ rfl) (Nat.le_of_ble_eq_true rfl) (Nat.le_of_eq (Nat.zero_add _)) (Nat.le_of_eq (Nat.zero_add _)) (sm_thr0 hsh) ?_
  refine j_if_eq (tgt := 117) dX12_cheque_112 rfl (by first | omega | (split <;> omega)) (fun c_112 => ?_) (fun c_112 => by exact absurd c_112 (by decide))
  refine j_aload_n dX12_cheque_117 rfl ?_
  refine r_cv0EV dX12_cheque_118 cvX12_356 (by decide) (by first | assumption | exact hsh _ _ rfl) (Nat.le_of_ble_eq_true rfl) (Nat.le_of_eq (Nat.zero_add _)) (Nat.le_of_eq (Nat.zero_add _)) (sm_remembers hsh hfx hr7 hr) (fun J hJ => ?_)
  have eJ : J 171 = I 171 := (hJ.2.2.1 171 (by decide) (by decide)).trans (fr1 171 (by decide))
  clear hok
  refine jW_ok (fun hok => ?_)
  refine j_aload_n dX12_cheque_121 rfl ?_
  refine r_getS dX12_cheque_122 flX12_13 (by first | assumption | exact hsh _ _ rfl) (fx_170_1 hfx) ?_
  refine j_iload_n dX12_cheque_125 rfl ?_
  refine j_iconst dX12_cheque_126 ?_
  refine r_cs2I dX12_cheque_127 csX12_64 (Nat.le_of_ble_eq_true rfl) (Nat.le_of_eq (Nat.zero_add _)) (Nat.le_of_eq (Nat.zero_add _)) (sm_at) ?_
  refine j_dup2 dX12_cheque_130 trivial trivial ?_
  refine r_ialoadE dX12_cheque_131 (by first | assumption | exact hsh _ _ rfl) (by first | omega | (split <;> omega)) (by first | omega | (split <;> omega)) (show J 171 (12 + 13 * p + 1) = aOf (I 171) p 1 from eA J _ eJ) (fun b_131 => ?_)
  refine j_iload_n dX12_cheque_132 rfl ?_
  refine j_isub dX12_cheque_133 ?_
  refine r_iastore dX12_cheque_134 (by first | assumption | exact hsh _ _ rfl) (by first | omega | (split <;> omega)) (by first | omega | (split <;> omega)) (by first | omega | (split <;> omega)) ?_
  obtain ⟨K1, hK1⟩ : ∃ K, K = jup J 171 (12 + 13 * p + 1) (aOf (I 171) p 1 - n) := ⟨_, rfl⟩
  rw [← hK1]
  have k1 : K1 171 = wup (I 171) (12 + 13 * p + 1) (aOf (I 171) p 1 - n) := by rw [hK1, jup_at, eJ]
  have q145 : K1 171 (12 + 13 * q + 1) = aOf (I 171) q 1 := by rw [k1]; exact wup_ne _ _ (by omega)
  refine j_aload_n dX12_cheque_135 rfl ?_
  refine r_getS dX12_cheque_136 flX12_13 (by first | assumption | exact hsh _ _ rfl) (fx_170_1 hfx) ?_
  refine j_iload_n dX12_cheque_139 rfl ?_
  refine j_iconst dX12_cheque_140 ?_
  refine r_cs2I dX12_cheque_141 csX12_64 (Nat.le_of_ble_eq_true rfl) (Nat.le_of_eq (Nat.zero_add _)) (Nat.le_of_eq (Nat.zero_add _)) (sm_at) ?_
  refine j_dup2 dX12_cheque_144 trivial trivial ?_
  refine r_ialoadE dX12_cheque_145 (by first | assumption | exact hsh _ _ rfl) (by first | omega | (split <;> omega)) (by first | omega | (split <;> omega)) q145 (fun b_145 => ?_)
  refine j_iload_n dX12_cheque_146 rfl ?_
  refine j_iadd dX12_cheque_147 ?_
  refine r_iastore dX12_cheque_148 (by first | assumption | exact hsh _ _ rfl) (by first | omega | (split <;> omega)) (by first | omega | (split <;> omega)) (by first | omega | (split <;> omega)) ?_
  obtain ⟨K2, hK2⟩ : ∃ K, K = jup K1 171 (12 + 13 * q + 1) (aOf (I 171) q 1 + n) := ⟨_, rfl⟩
  rw [← hK2]
  have k2 : K2 171 = wup (wup (I 171) (12 + 13 * p + 1) (aOf (I 171) p 1 - n)) (12 + 13 * q + 1) (aOf (I 171) q 1 + n) := by rw [hK2, jup_at, k1]
  have q153 : aOf (K2 171) p 2 = aOf (I 171) p 2 := by rw [k2]; exact (wup_ne _ _ (by omega)).trans (wup_ne _ _ (by omega))
  have q159 : aOf (K2 171) p 1 = aOf (I 171) p 1 - n := by rw [k2]; exact (wup_ne _ _ (by omega)).trans (wup_same _ _ _)
  refine j_iconst dX12_cheque_149 ?_
  refine j_aload_n dX12_cheque_150 rfl ?_
  refine j_iload_n dX12_cheque_151 rfl ?_
  refine j_iconst dX12_cheque_152 ?_
  refine r_cv2I dX12_cheque_153 cvX12_68 (by decide) (by first | assumption | exact hsh _ _ rfl) (Nat.le_of_ble_eq_true rfl) (Nat.le_of_eq (Nat.zero_add _)) (Nat.le_of_eq (Nat.zero_add _)) (sm_of hsh hfx (by omega)) ?_
  rw [q153]
  refine j_aload_n dX12_cheque_156 rfl ?_
  refine j_iload_n dX12_cheque_157 rfl ?_
  refine j_iconst dX12_cheque_158 ?_
  refine r_cv2I dX12_cheque_159 cvX12_68 (by decide) (by first | assumption | exact hsh _ _ rfl) (Nat.le_of_ble_eq_true rfl) (Nat.le_of_eq (Nat.zero_add _)) (Nat.le_of_eq (Nat.zero_add _)) (sm_of hsh hfx (by omega)) ?_
  rw [q159]
  refine j_isub dX12_cheque_162 ?_
  refine r_max dX12_cheque_163 lmX12_280 (Nat.le_of_ble_eq_true rfl) (by first | omega | (split <;> omega)) (by first | omega | (split <;> omega)) ?_
  refine j_istore dX12_cheque_166 (by decide) ?_
  refine j_aload_n dX12_cheque_168 rfl ?_
  refine r_getS dX12_cheque_169 flX12_13 (by first | assumption | exact hsh _ _ rfl) (fx_170_1 hfx) ?_
  refine j_iload_n dX12_cheque_172 rfl ?_
  refine j_iconst dX12_cheque_173 ?_
  refine r_cs2I dX12_cheque_174 csX12_64 (Nat.le_of_ble_eq_true rfl) (Nat.le_of_eq (Nat.zero_add _)) (Nat.le_of_eq (Nat.zero_add _)) (sm_at) ?_
  refine j_dup2 dX12_cheque_177 trivial trivial ?_
  refine r_ialoadE dX12_cheque_178 (by first | assumption | exact hsh _ _ rfl) (by first | omega | (split <;> omega)) (by first | omega | (split <;> omega)) q153 (fun b_178 => ?_)
  refine j_iload dX12_cheque_179 rfl ?_
  refine j_isub dX12_cheque_181 ?_
  refine r_iastore dX12_cheque_182 (by first | assumption | exact hsh _ _ rfl) (by first | omega | (split <;> omega)) (by first | omega | (split <;> omega)) (by first | omega | (split <;> omega)) ?_
  obtain ⟨K3, hK3⟩ : ∃ K, K = jup K2 171 (12 + 13 * p + 2) (aOf (I 171) p 2 - mMv (I 171) p n) := ⟨_, rfl⟩
  rw [show jup K2 171 (12 + 13 * p + 2) _ = K3 from hK3.symm]
  have k3 : K3 171 = wup (wup (wup (I 171) (12 + 13 * p + 1) (aOf (I 171) p 1 - n)) (12 + 13 * q + 1) (aOf (I 171) q 1 + n)) (12 + 13 * p + 2) (aOf (I 171) p 2 - mMv (I 171) p n) := by rw [hK3, jup_at, k2]
  have q193 : K3 171 (12 + 13 * q + 2) = aOf (I 171) q 2 := by rw [k3]; exact (wup_ne _ _ (by omega)).trans ((wup_ne _ _ (by omega)).trans (wup_ne _ _ (by omega)))
  refine j_aload_n dX12_cheque_183 rfl ?_
  refine r_getS dX12_cheque_184 flX12_13 (by first | assumption | exact hsh _ _ rfl) (fx_170_1 hfx) ?_
  refine j_iload_n dX12_cheque_187 rfl ?_
  refine j_iconst dX12_cheque_188 ?_
  refine r_cs2I dX12_cheque_189 csX12_64 (Nat.le_of_ble_eq_true rfl) (Nat.le_of_eq (Nat.zero_add _)) (Nat.le_of_eq (Nat.zero_add _)) (sm_at) ?_
  refine j_dup2 dX12_cheque_192 trivial trivial ?_
  refine r_ialoadE dX12_cheque_193 (by first | assumption | exact hsh _ _ rfl) (by first | omega | (split <;> omega)) (by first | omega | (split <;> omega)) q193 (fun b_193 => ?_)
  refine j_iload dX12_cheque_194 rfl ?_
  refine j_iadd dX12_cheque_196 ?_
  refine r_iastore dX12_cheque_197 (by first | assumption | exact hsh _ _ rfl) (by first | omega | (split <;> omega)) (by first | omega | (split <;> omega)) (by first | omega | (split <;> omega)) ?_
  obtain ⟨K4, hK4⟩ : ∃ K, K = jup K3 171 (12 + 13 * q + 2) (aOf (I 171) q 2 + mMv (I 171) p n) := ⟨_, rfl⟩
  rw [show jup K3 171 (12 + 13 * q + 2) _ = K4 from hK4.symm]
  have k4 : K4 171 = wCheq (I 171) p q n := by rw [hK4, jup_at, k3]
  have q201 : aOf (K4 171) q 1 = aOf (I 171) q 1 + n := by rw [k4]; exact (wup_ne _ _ (by omega)).trans ((wup_ne _ _ (by omega)).trans (wup_same _ _ _))
  refine j_aload_n dX12_cheque_198 rfl ?_
  refine j_iload_n dX12_cheque_199 rfl ?_
  refine j_iconst dX12_cheque_200 ?_
  refine r_cv2I dX12_cheque_201 cvX12_68 (by decide) (by first | assumption | exact hsh _ _ rfl) (Nat.le_of_ble_eq_true rfl) (Nat.le_of_eq (Nat.zero_add _)) (Nat.le_of_eq (Nat.zero_add _)) (sm_of hsh hfx (by omega)) ?_
  rw [q201]
  refine j_iret dX12_cheque_204 rfl ?_
  exact rEI_of rfl (Ac_of fr1 fr1k fr1c hJ (fun a ha => by rw [hK4, jup_ne _ _ _ ha, hK3, jup_ne _ _ _ ha, hK2, jup_ne _ _ _ ha, hK1, jup_ne _ _ _ ha]) k4)
theorem mp_owe_1 (hsh : ShOK sh) (hfx : FxOK F) (hW : WF (I 171)) (hr : 0 ≤ I 170 7 ∧ I 170 7 ≤ 12) {p q n : Int} (j1 : jin p) (j2 : jin q) (h : ¬ (gP (I 171) p ∧ gP (I 171) q)) : jS G (d + 6) mX12_owe [jR (some 170), jI p, jI q, jI n] (sh, I, F) 0 0 (rI (0) (sh, jup I 170 0 1, F)) := by
  have hP : WfP (I 171) := hW.1
  have g8 : aPe (I 171) ≤ 8 := hP.2
  refine jS_go [some (jR (some 170)), some (jI p), some (jI q), some (jI n)] (by decide +kernel) rfl (by simp [jone]) (Nat.le_of_ble_eq_true rfl) rfl (fun hok => ?_)
  refine j_aload_n dX12_owe_0 rfl ?_
  refine j_iconst dX12_owe_1 ?_
  refine r_putI dX12_owe_2 flX12_3 rfl (by first | assumption | exact hsh _ _ rfl) (by first | omega | (split <;> omega)) (fun q => by cases q) ?_
  skip
  have hok1 : jzok (sh, jup I 170 0 0, F) := jzok_I hok jin_lit0
  have hw0 : (jup I 170 0 0) 171 = I 171 := jup_ne _ _ _ (by decide)
  clear hok
  rw [← jup_up I 170 0 0 1]
  rw [← hw0] at hP h
  try rw [← hw0]
  obtain ⟨I1, hI1⟩ : ∃ J, J = jup I 170 0 0 := ⟨_, rfl⟩
  rw [← hI1] at hok1 hw0 hP h ⊢
  have hok := hok1
  by_cases e1 : gP (I1 171) p
  · have e2 : ¬ gP (I1 171) q := fun q => h ⟨e1, q⟩
    refine j_aload_n dX12_owe_5 rfl ?_
    refine j_aload_n dX12_owe_6 rfl ?_
    refine j_iload_n dX12_owe_7 rfl ?_
    refine r_cv1I dX12_owe_8 cvX12_335 (by decide) (by first | assumption | exact hsh _ _ rfl) (Nat.le_of_ble_eq_true rfl) (Nat.le_of_eq (Nat.zero_add _)) (Nat.le_of_eq (Nat.zero_add _)) (sm_noP0 hsh hfx hok (by omega) hP e1) ?_
    refine j_if_ne (tgt := 22) dX12_owe_11 rfl (by first | omega | (split <;> omega)) (fun c_11 => by exact absurd c_11 (by decide)) (fun c_11 => ?_)
    refine j_aload_n dX12_owe_14 rfl ?_
    refine j_iload_n dX12_owe_15 rfl ?_
    refine r_cv1I dX12_owe_16 cvX12_335 (by decide) (by first | assumption | exact hsh _ _ rfl) (Nat.le_of_ble_eq_true rfl) (Nat.le_of_eq (Nat.zero_add _)) (Nat.le_of_eq (Nat.zero_add _)) (sm_noP1 hsh hfx hok (by omega) hP e2) ?_
    refine j_if_eq (tgt := 26) dX12_owe_19 rfl (by first | omega | (split <;> omega)) (fun c_19 => by exact absurd c_19 (by decide)) (fun c_19 => ?_)
    refine j_iconst dX12_owe_22 ?_
    refine j_goto (tgt := 27) dX12_owe_23 rfl ?_
    refine j_iconst dX12_owe_27 ?_
    refine r_cv2I dX12_owe_28 cvX12_253 (by decide) (by first | assumption | exact hsh _ _ rfl) (Nat.le_of_ble_eq_true rfl) (Nat.le_of_eq (Nat.zero_add _)) (Nat.le_of_eq (Nat.zero_add _)) (sm_thr1 hsh (by omega)) ?_
    refine j_if_ne (tgt := 90) dX12_owe_31 rfl (by first | omega | (split <;> omega)) (fun c_31 => ?_) (fun c_31 => by exact absurd c_31 (by decide))
    refine j_iconst dX12_owe_90 ?_
    refine j_iret dX12_owe_91 rfl ?_
    exact rI_of rfl rfl
  · refine j_aload_n dX12_owe_5 rfl ?_
    refine j_aload_n dX12_owe_6 rfl ?_
    refine j_iload_n dX12_owe_7 rfl ?_
    refine r_cv1I dX12_owe_8 cvX12_335 (by decide) (by first | assumption | exact hsh _ _ rfl) (Nat.le_of_ble_eq_true rfl) (Nat.le_of_eq (Nat.zero_add _)) (Nat.le_of_eq (Nat.zero_add _)) (sm_noP1 hsh hfx hok (by omega) hP e1) ?_
    refine j_if_ne (tgt := 22) dX12_owe_11 rfl (by first | omega | (split <;> omega)) (fun c_11 => ?_) (fun c_11 => by exact absurd c_11 (by decide))
    refine j_iconst dX12_owe_22 ?_
    refine j_goto (tgt := 27) dX12_owe_23 rfl ?_
    refine j_iconst dX12_owe_27 ?_
    refine r_cv2I dX12_owe_28 cvX12_253 (by decide) (by first | assumption | exact hsh _ _ rfl) (Nat.le_of_ble_eq_true rfl) (Nat.le_of_eq (Nat.zero_add _)) (Nat.le_of_eq (Nat.zero_add _)) (sm_thr1 hsh (by omega)) ?_
    refine j_if_ne (tgt := 90) dX12_owe_31 rfl (by first | omega | (split <;> omega)) (fun c_31 => ?_) (fun c_31 => by exact absurd c_31 (by decide))
    refine j_iconst dX12_owe_90 ?_
    refine j_iret dX12_owe_91 rfl ?_
    exact rI_of rfl rfl
theorem mp_owe_2 (hsh : ShOK sh) (hfx : FxOK F) (hW : WF (I 171)) (hr : 0 ≤ I 170 7 ∧ I 170 7 ≤ 12) {p q n : Int} (h1 : gP (I 171) p ∧ gP (I 171) q) (jn : jin n) (h2 : ¬ (¬ p = q ∧ 1 ≤ n ∧ n ≤ 999)) : jS G (d + 6) mX12_owe [jR (some 170), jI p, jI q, jI n] (sh, I, F) 0 0 (rI (0) (sh, jup I 170 0 2, F)) := by
  have hP : WfP (I 171) := hW.1
  have g8 : aPe (I 171) ≤ 8 := hP.2
  have gp : 0 ≤ p ∧ p < 8 := by have := h1.1.1; have := h1.1.2; omega
  have gq : 0 ≤ q ∧ q < 8 := by have := h1.2.1; have := h1.2.2; omega
  refine jS_go [some (jR (some 170)), some (jI p), some (jI q), some (jI n)] (by decide +kernel) rfl (by simp [jone]) (Nat.le_of_ble_eq_true rfl) rfl (fun hok => ?_)
  refine j_aload_n dX12_owe_0 rfl ?_
  refine j_iconst dX12_owe_1 ?_
  refine r_putI dX12_owe_2 flX12_3 rfl (by first | assumption | exact hsh _ _ rfl) (by first | omega | (split <;> omega)) (fun q => by cases q) ?_
  skip
  have hok1 : jzok (sh, jup I 170 0 0, F) := jzok_I hok jin_lit0
  have hw0 : (jup I 170 0 0) 171 = I 171 := jup_ne _ _ _ (by decide)
  clear hok
  rw [← jup_up I 170 0 0 2]
  rw [← hw0] at hP h1
  try rw [← hw0]
  obtain ⟨I1, hI1⟩ : ∃ J, J = jup I 170 0 0 := ⟨_, rfl⟩
  rw [← hI1] at hok1 hw0 hP h1 ⊢
  have hok := hok1
  by_cases e : p = q
  · refine j_aload_n dX12_owe_5 rfl ?_
    refine j_aload_n dX12_owe_6 rfl ?_
    refine j_iload_n dX12_owe_7 rfl ?_
    refine r_cv1I dX12_owe_8 cvX12_335 (by decide) (by first | assumption | exact hsh _ _ rfl) (Nat.le_of_ble_eq_true rfl) (Nat.le_of_eq (Nat.zero_add _)) (Nat.le_of_eq (Nat.zero_add _)) (sm_noP0 hsh hfx hok (by omega) hP h1.1) ?_
    refine j_if_ne (tgt := 22) dX12_owe_11 rfl (by first | omega | (split <;> omega)) (fun c_11 => by exact absurd c_11 (by decide)) (fun c_11 => ?_)
    refine j_aload_n dX12_owe_14 rfl ?_
    refine j_iload_n dX12_owe_15 rfl ?_
    refine r_cv1I dX12_owe_16 cvX12_335 (by decide) (by first | assumption | exact hsh _ _ rfl) (Nat.le_of_ble_eq_true rfl) (Nat.le_of_eq (Nat.zero_add _)) (Nat.le_of_eq (Nat.zero_add _)) (sm_noP0 hsh hfx hok (by omega) hP h1.2) ?_
    refine j_if_eq (tgt := 26) dX12_owe_19 rfl (by first | omega | (split <;> omega)) (fun c_19 => ?_) (fun c_19 => by exact absurd c_19 (by decide))
    refine j_iconst dX12_owe_26 ?_
    refine j_iconst dX12_owe_27 ?_
    refine r_cv2I dX12_owe_28 cvX12_253 (by decide) (by first | assumption | exact hsh _ _ rfl) (Nat.le_of_ble_eq_true rfl) (Nat.le_of_eq (Nat.zero_add _)) (Nat.le_of_eq (Nat.zero_add _)) (sm_thr0 hsh) ?_
    refine j_if_ne (tgt := 90) dX12_owe_31 rfl (by first | omega | (split <;> omega)) (fun c_31 => by exact absurd c_31 (by decide)) (fun c_31 => ?_)
    refine j_aload_n dX12_owe_34 rfl ?_
    refine j_iload_n dX12_owe_35 rfl ?_
    refine j_iload_n dX12_owe_36 rfl ?_
    refine j_icmp_eq (tgt := 51) dX12_owe_37 rfl (by first | omega | (split <;> omega)) (by first | omega | (split <;> omega)) (fun c_37 => ?_) (fun c_37 => by exact absurd e c_37)
    refine j_iconst dX12_owe_51 ?_
    refine j_goto (tgt := 56) dX12_owe_52 rfl ?_
    refine j_iconst dX12_owe_56 ?_
    refine r_cv2I dX12_owe_57 cvX12_253 (by decide) (by first | assumption | exact hsh _ _ rfl) (Nat.le_of_ble_eq_true rfl) (Nat.le_of_eq (Nat.zero_add _)) (Nat.le_of_eq (Nat.zero_add _)) (sm_thr1 hsh (by omega)) ?_
    refine j_if_ne (tgt := 90) dX12_owe_60 rfl (by first | omega | (split <;> omega)) (fun c_60 => ?_) (fun c_60 => by exact absurd c_60 (by decide))
    refine j_iconst dX12_owe_90 ?_
    refine j_iret dX12_owe_91 rfl ?_
    exact rI_of rfl rfl
  · have e2 : ¬ (1 ≤ n ∧ n ≤ 999) := fun q => h2 ⟨e, q⟩
    refine j_aload_n dX12_owe_5 rfl ?_
    refine j_aload_n dX12_owe_6 rfl ?_
    refine j_iload_n dX12_owe_7 rfl ?_
    refine r_cv1I dX12_owe_8 cvX12_335 (by decide) (by first | assumption | exact hsh _ _ rfl) (Nat.le_of_ble_eq_true rfl) (Nat.le_of_eq (Nat.zero_add _)) (Nat.le_of_eq (Nat.zero_add _)) (sm_noP0 hsh hfx hok (by omega) hP h1.1) ?_
    refine j_if_ne (tgt := 22) dX12_owe_11 rfl (by first | omega | (split <;> omega)) (fun c_11 => by exact absurd c_11 (by decide)) (fun c_11 => ?_)
    refine j_aload_n dX12_owe_14 rfl ?_
    refine j_iload_n dX12_owe_15 rfl ?_
    refine r_cv1I dX12_owe_16 cvX12_335 (by decide) (by first | assumption | exact hsh _ _ rfl) (Nat.le_of_ble_eq_true rfl) (Nat.le_of_eq (Nat.zero_add _)) (Nat.le_of_eq (Nat.zero_add _)) (sm_noP0 hsh hfx hok (by omega) hP h1.2) ?_
    refine j_if_eq (tgt := 26) dX12_owe_19 rfl (by first | omega | (split <;> omega)) (fun c_19 => ?_) (fun c_19 => by exact absurd c_19 (by decide))
    refine j_iconst dX12_owe_26 ?_
    refine j_iconst dX12_owe_27 ?_
    refine r_cv2I dX12_owe_28 cvX12_253 (by decide) (by first | assumption | exact hsh _ _ rfl) (Nat.le_of_ble_eq_true rfl) (Nat.le_of_eq (Nat.zero_add _)) (Nat.le_of_eq (Nat.zero_add _)) (sm_thr0 hsh) ?_
    refine j_if_ne (tgt := 90) dX12_owe_31 rfl (by first | omega | (split <;> omega)) (fun c_31 => by exact absurd c_31 (by decide)) (fun c_31 => ?_)
    refine j_aload_n dX12_owe_34 rfl ?_
    refine j_iload_n dX12_owe_35 rfl ?_
    refine j_iload_n dX12_owe_36 rfl ?_
    refine j_icmp_eq (tgt := 51) dX12_owe_37 rfl (by first | omega | (split <;> omega)) (by first | omega | (split <;> omega)) (fun c_37 => by exact absurd c_37 e) (fun c_37 => ?_)
    refine j_iload_n dX12_owe_40 rfl ?_
    refine j_iconst dX12_owe_41 ?_
    refine j_sipush dX12_owe_42 (by decide) ?_
    refine r_cs3I dX12_owe_45 csX12_78 (Nat.le_of_ble_eq_true rfl) (Nat.le_of_eq (Nat.zero_add _)) (Nat.le_of_eq (Nat.zero_add _)) (sm_in0 (by omega) (by omega) (by omega) e2) ?_
    refine j_if_ne (tgt := 55) dX12_owe_48 rfl (by first | omega | (split <;> omega)) (fun c_48 => by exact absurd c_48 (by decide)) (fun c_48 => ?_)
    refine j_iconst dX12_owe_51 ?_
    refine j_goto (tgt := 56) dX12_owe_52 rfl ?_
    refine j_iconst dX12_owe_56 ?_
    refine r_cv2I dX12_owe_57 cvX12_253 (by decide) (by first | assumption | exact hsh _ _ rfl) (Nat.le_of_ble_eq_true rfl) (Nat.le_of_eq (Nat.zero_add _)) (Nat.le_of_eq (Nat.zero_add _)) (sm_thr1 hsh (by omega)) ?_
    refine j_if_ne (tgt := 90) dX12_owe_60 rfl (by first | omega | (split <;> omega)) (fun c_60 => ?_) (fun c_60 => by exact absurd c_60 (by decide))
    refine j_iconst dX12_owe_90 ?_
    refine j_iret dX12_owe_91 rfl ?_
    exact rI_of rfl rfl
theorem mp_owe_3 (hsh : ShOK sh) (hfx : FxOK F) (hW : WF (I 171)) (hr : 0 ≤ I 170 7 ∧ I 170 7 ≤ 12) {p q n : Int} (h1 : gP (I 171) p ∧ gP (I 171) q) (h2 : ¬ p = q ∧ 1 ≤ n ∧ n ≤ 999) (h3 : 9999 < jwr (aOw (I 171) p q + n)) : jS G (d + 6) mX12_owe [jR (some 170), jI p, jI q, jI n] (sh, I, F) 0 0 (rI (0) (sh, jup I 170 0 3, F)) := by
  have hP : WfP (I 171) := hW.1
  have g8 : aPe (I 171) ≤ 8 := hP.2
  have gp : 0 ≤ p ∧ p < 8 := by have := h1.1.1; have := h1.1.2; omega
  have gq : 0 ≤ q ∧ q < 8 := by have := h1.2.1; have := h1.2.2; omega
  refine jS_go [some (jR (some 170)), some (jI p), some (jI q), some (jI n)] (by decide +kernel) rfl (by simp [jone]) (Nat.le_of_ble_eq_true rfl) rfl (fun hok => ?_)
  refine j_aload_n dX12_owe_0 rfl ?_
  refine j_iconst dX12_owe_1 ?_
  refine r_putI dX12_owe_2 flX12_3 rfl (by first | assumption | exact hsh _ _ rfl) (by first | omega | (split <;> omega)) (fun q => by cases q) ?_
  skip
  have hok1 : jzok (sh, jup I 170 0 0, F) := jzok_I hok jin_lit0
  have hw0 : (jup I 170 0 0) 171 = I 171 := jup_ne _ _ _ (by decide)
  clear hok
  rw [← jup_up I 170 0 0 3]
  rw [← hw0] at hP h1 h3
  try rw [← hw0]
  obtain ⟨I1, hI1⟩ : ∃ J, J = jup I 170 0 0 := ⟨_, rfl⟩
  rw [← hI1] at hok1 hw0 hP h1 h3 ⊢
  have hok := hok1
  have hj := jwr_in (aOw (I1 171) p q + n)
  refine j_aload_n dX12_owe_5 rfl ?_
  refine j_aload_n dX12_owe_6 rfl ?_
  refine j_iload_n dX12_owe_7 rfl ?_
  refine r_cv1I dX12_owe_8 cvX12_335 (by decide) (by first | assumption | exact hsh _ _ rfl) (Nat.le_of_ble_eq_true rfl) (Nat.le_of_eq (Nat.zero_add _)) (Nat.le_of_eq (Nat.zero_add _)) (sm_noP0 hsh hfx hok (by omega) hP h1.1) ?_
  refine j_if_ne (tgt := 22) dX12_owe_11 rfl (by first | omega | (split <;> omega)) (fun c_11 => by exact absurd c_11 (by decide)) (fun c_11 => ?_)
  refine j_aload_n dX12_owe_14 rfl ?_
  refine j_iload_n dX12_owe_15 rfl ?_
  refine r_cv1I dX12_owe_16 cvX12_335 (by decide) (by first | assumption | exact hsh _ _ rfl) (Nat.le_of_ble_eq_true rfl) (Nat.le_of_eq (Nat.zero_add _)) (Nat.le_of_eq (Nat.zero_add _)) (sm_noP0 hsh hfx hok (by omega) hP h1.2) ?_
  refine j_if_eq (tgt := 26) dX12_owe_19 rfl (by first | omega | (split <;> omega)) (fun c_19 => ?_) (fun c_19 => by exact absurd c_19 (by decide))
  refine j_iconst dX12_owe_26 ?_
  refine j_iconst dX12_owe_27 ?_
  refine r_cv2I dX12_owe_28 cvX12_253 (by decide) (by first | assumption | exact hsh _ _ rfl) (Nat.le_of_ble_eq_true rfl) (Nat.le_of_eq (Nat.zero_add _)) (Nat.le_of_eq (Nat.zero_add _)) (sm_thr0 hsh) ?_
  refine j_if_ne (tgt := 90) dX12_owe_31 rfl (by first | omega | (split <;> omega)) (fun c_31 => by exact absurd c_31 (by decide)) (fun c_31 => ?_)
  refine j_aload_n dX12_owe_34 rfl ?_
  refine j_iload_n dX12_owe_35 rfl ?_
  refine j_iload_n dX12_owe_36 rfl ?_
  refine j_icmp_eq (tgt := 51) dX12_owe_37 rfl (by first | omega | (split <;> omega)) (by first | omega | (split <;> omega)) (fun c_37 => by exact absurd c_37 h2.1) (fun c_37 => ?_)
  refine j_iload_n dX12_owe_40 rfl ?_
  refine j_iconst dX12_owe_41 ?_
  refine j_sipush dX12_owe_42 (by decide) ?_
  refine r_cs3I dX12_owe_45 csX12_78 (Nat.le_of_ble_eq_true rfl) (Nat.le_of_eq (Nat.zero_add _)) (Nat.le_of_eq (Nat.zero_add _)) (sm_in1 (by omega) (by omega) (by omega) h2.2) ?_
  refine j_if_ne (tgt := 55) dX12_owe_48 rfl (by first | omega | (split <;> omega)) (fun c_48 => ?_) (fun c_48 => by exact absurd c_48 (by decide))
  refine j_iconst dX12_owe_55 ?_
  refine j_iconst dX12_owe_56 ?_
  refine r_cv2I dX12_owe_57 cvX12_253 (by decide) (by first | assumption | exact hsh _ _ rfl) (Nat.le_of_ble_eq_true rfl) (Nat.le_of_eq (Nat.zero_add _)) (Nat.le_of_eq (Nat.zero_add _)) (sm_thr0 hsh) ?_
  refine j_if_ne (tgt := 90) dX12_owe_60 rfl (by first | omega | (split <;> omega)) (fun c_60 => by exact absurd c_60 (by decide)) (fun c_60 => ?_)
  refine j_aload_n dX12_owe_63 rfl ?_
  refine j_aload_n dX12_owe_64 rfl ?_
  refine j_iload_n dX12_owe_65 rfl ?_
  refine j_iload_n dX12_owe_66 rfl ?_
  refine r_cv2J dX12_owe_67 cvX12_329 (by decide) (by first | assumption | exact hsh _ _ rfl) (Nat.le_of_ble_eq_true rfl) (Nat.le_of_eq (Nat.zero_add _)) (Nat.le_of_eq (Nat.zero_add _)) (sm_owedBy hsh hfx (by omega)) (hok.2.1 171 _) (fun b_67 => ?_)
  refine j_iload_n dX12_owe_70 rfl ?_
  refine j_iadd dX12_owe_71 ?_
  refine j_wrap ?_
  refine j_sipush dX12_owe_72 (by decide) ?_
  refine j_icmp_le (tgt := 82) dX12_owe_75 rfl (by first | omega | (split <;> omega)) (by first | omega | (split <;> omega)) (fun c_75 => by exact absurd c_75 (by omega)) (fun c_75 => ?_)
  refine j_iconst dX12_owe_78 ?_
  refine j_goto (tgt := 83) dX12_owe_79 rfl ?_
  refine j_iconst dX12_owe_83 ?_
  refine r_cv2I dX12_owe_84 cvX12_253 (by decide) (by first | assumption | exact hsh _ _ rfl) (Nat.le_of_ble_eq_true rfl) (Nat.le_of_eq (Nat.zero_add _)) (Nat.le_of_eq (Nat.zero_add _)) (sm_thr1 hsh (by omega)) ?_
  refine j_if_eq (tgt := 92) dX12_owe_87 rfl (by first | omega | (split <;> omega)) (fun c_87 => by exact absurd c_87 (by decide)) (fun c_87 => ?_)
  refine j_iconst dX12_owe_90 ?_
  refine j_iret dX12_owe_91 rfl ?_
  exact rI_of rfl rfl
theorem mp_owe_0 (hsh : ShOK sh) (hfx : FxOK F) (hW : WF (I 171)) (hr : 0 ≤ I 170 7 ∧ I 170 7 ≤ 12) {p q n : Int} (h1 : gP (I 171) p ∧ gP (I 171) q) (h2 : ¬ p = q ∧ 1 ≤ n ∧ n ≤ 999) (h3 : ¬ 9999 < jwr (aOw (I 171) p q + n)) : jS G (d + 6) mX12_owe [jR (some 170), jI p, jI q, jI n] (sh, I, F) 0 0 (rEI (jwr (aOw (I 171) p q + n)) sh F (AcO 0 I (mzW (mzR I) (wOwe (I 171) p q n)))) := by
  have hP : WfP (I 171) := hW.1
  have g8 : aPe (I 171) ≤ 8 := hP.2
  have gp : 0 ≤ p ∧ p < 8 := by have := h1.1.1; have := h1.1.2; omega
  have gq : 0 ≤ q ∧ q < 8 := by have := h1.2.1; have := h1.2.2; omega
  refine jS_go [some (jR (some 170)), some (jI p), some (jI q), some (jI n)] (by decide +kernel) rfl (by simp [jone]) (Nat.le_of_ble_eq_true rfl) rfl (fun hok => ?_)
  refine j_aload_n dX12_owe_0 rfl ?_
  refine j_iconst dX12_owe_1 ?_
  refine r_putI dX12_owe_2 flX12_3 rfl (by first | assumption | exact hsh _ _ rfl) (by first | omega | (split <;> omega)) (fun q => by cases q) ?_
  skip
  have hok1 : jzok (sh, jup I 170 0 0, F) := jzok_I hok jin_lit0
  obtain ⟨I1, hI1⟩ : ∃ J, J = jup I 170 0 0 := ⟨_, rfl⟩
  rw [← hI1] at hok1 ⊢
  have hok0 := hok
  clear hok
  have hok := hok1
  have fr1 : ∀ a, a ≠ 170 → I1 a = I a := fun a ha => by rw [hI1, jup_ne _ _ _ ha]
  have fr1k : ∀ k, k ≠ 0 → I1 170 k = I 170 k := fun k hk => by rw [hI1, jup_row _ _ _ hk]
  have fr1c : I1 170 0 = 0 := by rw [hI1, jup_same]
  have hw0 : I1 171 = I 171 := fr1 171 (by decide)
  rw [← hw0] at hP h1 h3
  have hr7 : I1 170 7 = I 170 7 := fr1k 7 (by decide)
  have hj := jwr_in (aOw (I1 171) p q + n)
  have eA : ∀ (J : Nat → Int → Int) (x : Int), J 171 = I 171 → J 171 x = I 171 x := fun J x h => by rw [h]
  refine j_aload_n dX12_owe_5 rfl ?_
  refine j_aload_n dX12_owe_6 rfl ?_
  refine j_iload_n dX12_owe_7 rfl ?_
  refine r_cv1I dX12_owe_8 cvX12_335 (by decide) (by first | assumption | exact hsh _ _ rfl) (Nat.le_of_ble_eq_true rfl) (Nat.le_of_eq (Nat.zero_add _)) (Nat.le_of_eq (Nat.zero_add _)) (sm_noP0 hsh hfx hok (by omega) hP h1.1) ?_
  refine j_if_ne (tgt := 22) dX12_owe_11 rfl (by first | omega | (split <;> omega)) (fun c_11 => by exact absurd c_11 (by decide)) (fun c_11 => ?_)
  refine j_aload_n dX12_owe_14 rfl ?_
  refine j_iload_n dX12_owe_15 rfl ?_
  refine r_cv1I dX12_owe_16 cvX12_335 (by decide) (by first | assumption | exact hsh _ _ rfl) (Nat.le_of_ble_eq_true rfl) (Nat.le_of_eq (Nat.zero_add _)) (Nat.le_of_eq (Nat.zero_add _)) (sm_noP0 hsh hfx hok (by omega) hP h1.2) ?_
  refine j_if_eq (tgt := 26) dX12_owe_19 rfl (by first | omega | (split <;> omega)) (fun c_19 => ?_) (fun c_19 => by exact absurd c_19 (by decide))
  refine j_iconst dX12_owe_26 ?_
  refine j_iconst dX12_owe_27 ?_
  refine r_cv2I dX12_owe_28 cvX12_253 (by decide) (by first | assumption | exact hsh _ _ rfl) (Nat.le_of_ble_eq_true rfl) (Nat.le_of_eq (Nat.zero_add _)) (Nat.le_of_eq (Nat.zero_add _)) (sm_thr0 hsh) ?_
  refine j_if_ne (tgt := 90) dX12_owe_31 rfl (by first | omega | (split <;> omega)) (fun c_31 => by exact absurd c_31 (by decide)) (fun c_31 => ?_)
  refine j_aload_n dX12_owe_34 rfl ?_
  refine j_iload_n dX12_owe_35 rfl ?_
  refine j_iload_n dX12_owe_36 rfl ?_
  refine j_icmp_eq (tgt := 51) dX12_owe_37 rfl (by first | omega | (split <;> omega)) (by first | omega | (split <;> omega)) (fun c_37 => by exact absurd c_37 h2.1) (fun c_37 => ?_)
  refine j_iload_n dX12_owe_40 rfl ?_
  refine j_iconst dX12_owe_41 ?_
  refine j_sipush dX12_owe_42 (by decide) ?_
  refine r_cs3I dX12_owe_45 csX12_78 (Nat.le_of_ble_eq_true rfl) (Nat.le_of_eq (Nat.zero_add _)) (Nat.le_of_eq (Nat.zero_add _)) (sm_in1 (by omega) (by omega) (by omega) h2.2) ?_
  refine j_if_ne (tgt := 55) dX12_owe_48 rfl (by first | omega | (split <;> omega)) (fun c_48 => ?_) (fun c_48 => by exact absurd c_48 (by decide))
  refine j_iconst dX12_owe_55 ?_
  refine j_iconst dX12_owe_56 ?_
  refine r_cv2I dX12_owe_57 cvX12_253 (by decide) (by first | assumption | exact hsh _ _ rfl) (Nat.le_of_ble_eq_true rfl) (Nat.le_of_eq (Nat.zero_add _)) (Nat.le_of_eq (Nat.zero_add _)) (sm_thr0 hsh) ?_
  refine j_if_ne (tgt := 90) dX12_owe_60 rfl (by first | omega | (split <;> omega)) (fun c_60 => by exact absurd c_60 (by decide)) (fun c_60 => ?_)
  refine j_aload_n dX12_owe_63 rfl ?_
  refine j_aload_n dX12_owe_64 rfl ?_
  refine j_iload_n dX12_owe_65 rfl ?_
  refine j_iload_n dX12_owe_66 rfl ?_
  refine r_cv2J dX12_owe_67 cvX12_329 (by decide) (by first | assumption | exact hsh _ _ rfl) (Nat.le_of_ble_eq_true rfl) (Nat.le_of_eq (Nat.zero_add _)) (Nat.le_of_eq (Nat.zero_add _)) (sm_owedBy hsh hfx (by omega)) (hok.2.1 171 _) (fun b_67 => ?_)
  refine j_iload_n dX12_owe_70 rfl ?_
  refine j_iadd dX12_owe_71 ?_
  refine j_wrap ?_
  refine j_sipush dX12_owe_72 (by decide) ?_
  refine j_icmp_le (tgt := 82) dX12_owe_75 rfl (by first | omega | (split <;> omega)) (by first | omega | (split <;> omega)) (fun c_75 => ?_) (fun c_75 => by exact absurd (by omega) c_75)
  refine j_iconst dX12_owe_82 ?_
  refine j_iconst dX12_owe_83 ?_
  refine r_cv2I dX12_owe_84 cvX12_253 (by decide) (by first | assumption | exact hsh _ _ rfl) (Nat.le_of_ble_eq_true rfl) (Nat.le_of_eq (Nat.zero_add _)) (Nat.le_of_eq (Nat.zero_add _)) (sm_thr0 hsh) ?_
  refine j_if_eq (tgt := 92) dX12_owe_87 rfl (by first | omega | (split <;> omega)) (fun c_87 => ?_) (fun c_87 => by exact absurd c_87 (by decide))
  refine j_aload_n dX12_owe_92 rfl ?_
  refine r_cv0EV dX12_owe_93 cvX12_356 (by decide) (by first | assumption | exact hsh _ _ rfl) (Nat.le_of_ble_eq_true rfl) (Nat.le_of_eq (Nat.zero_add _)) (Nat.le_of_eq (Nat.zero_add _)) (sm_remembers hsh hfx hr7 hr) (fun J hJ => ?_)
  have eJ : J 171 = I 171 := (hJ.2.2.1 171 (by decide) (by decide)).trans (fr1 171 (by decide))
  clear hok
  refine jW_ok (fun hok => ?_)
  refine j_aload_n dX12_owe_96 rfl ?_
  refine r_getS dX12_owe_97 flX12_13 (by first | assumption | exact hsh _ _ rfl) (fx_170_1 hfx) ?_
  refine j_iload_n dX12_owe_100 rfl ?_
  refine j_iload_n dX12_owe_101 rfl ?_
  refine r_cs2I dX12_owe_102 csX12_71 (Nat.le_of_ble_eq_true rfl) (Nat.le_of_eq (Nat.zero_add _)) (Nat.le_of_eq (Nat.zero_add _)) (sm_owedAt) ?_
  refine j_dup2 dX12_owe_105 trivial trivial ?_
  refine r_ialoadE dX12_owe_106 (by first | assumption | exact hsh _ _ rfl) (by first | omega | (split <;> omega)) (by first | omega | (split <;> omega)) (eA J _ eJ) (fun b_106 => ?_)
  refine j_iload_n dX12_owe_107 rfl ?_
  refine j_iadd dX12_owe_108 ?_
  refine j_wrap ?_
  refine r_iastore dX12_owe_109 (by first | assumption | exact hsh _ _ rfl) (by first | omega | (split <;> omega)) (by first | omega | (split <;> omega)) (jwr_in _) ?_
  obtain ⟨K, hK⟩ : ∃ K, K = jup J 171 (116 + 8 * p + q) (jwr (aOw (I 171) p q + n)) := ⟨_, rfl⟩
  rw [show jup J 171 (116 + 8 * p + q) _ = K from hK.symm]
  have eK : K 171 = wOwe (I 171) p q n := by rw [hK, jup_at, eJ]
  have eK2 : aOw (K 171) p q = jwr (aOw (I 171) p q + n) := by rw [eK]; exact wup_same _ _ _
  refine j_aload_n dX12_owe_110 rfl ?_
  refine j_iload_n dX12_owe_111 rfl ?_
  refine j_iload_n dX12_owe_112 rfl ?_
  refine r_cv2I dX12_owe_113 cvX12_329 (by decide) (by first | assumption | exact hsh _ _ rfl) (Nat.le_of_ble_eq_true rfl) (Nat.le_of_eq (Nat.zero_add _)) (Nat.le_of_eq (Nat.zero_add _)) (sm_owedBy hsh hfx (by omega)) ?_
  rw [eK2]
  refine j_iret dX12_owe_116 rfl ?_
  exact rEI_of rfl (Ac_of fr1 fr1k fr1c hJ (fun a ha => by rw [hK, jup_ne _ _ _ ha]) eK)
theorem mp_hear_1 (hsh : ShOK sh) (hfx : FxOK F) (hW : WF (I 171)) (hr : 0 ≤ I 170 7 ∧ I 170 7 ≤ 12) {p x : Int} (j1 : jin p) (h2 : ¬ gP (I 171) p) : jS G (d + 6) mX12_hear [jR (some 170), jI p, jI x] (sh, I, F) 0 0 (rI (0) (sh, jup I 170 0 1, F)) := by
  have hP : WfP (I 171) := hW.1
  have g8 : aPe (I 171) ≤ 8 := hP.2
  refine jS_go [some (jR (some 170)), some (jI p), some (jI x), none] (by decide +kernel) rfl (by simp [jone]) (Nat.le_of_ble_eq_true rfl) rfl (fun hok => ?_)
  refine j_aload_n dX12_hear_0 rfl ?_
  refine j_iconst dX12_hear_1 ?_
  refine r_putI dX12_hear_2 flX12_3 rfl (by first | assumption | exact hsh _ _ rfl) (by first | omega | (split <;> omega)) (fun q => by cases q) ?_
  skip
  have hok1 : jzok (sh, jup I 170 0 0, F) := jzok_I hok jin_lit0
  have hw0 : (jup I 170 0 0) 171 = I 171 := jup_ne _ _ _ (by decide)
  clear hok
  rw [← jup_up I 170 0 0 1]
  rw [← hw0] at hP h2
  try rw [← hw0]
  obtain ⟨I1, hI1⟩ : ∃ J, J = jup I 170 0 0 := ⟨_, rfl⟩
  rw [← hI1] at hok1 hw0 hP h2 ⊢
  have hok := hok1
  refine j_aload_n dX12_hear_5 rfl ?_
  refine j_aload_n dX12_hear_6 rfl ?_
  refine j_iload_n dX12_hear_7 rfl ?_
  refine r_cv1I dX12_hear_8 cvX12_335 (by decide) (by first | assumption | exact hsh _ _ rfl) (Nat.le_of_ble_eq_true rfl) (Nat.le_of_eq (Nat.zero_add _)) (Nat.le_of_eq (Nat.zero_add _)) (sm_noP1 hsh hfx hok (by omega) hP h2) ?_
  refine j_iconst dX12_hear_11 ?_
  refine r_cv2I dX12_hear_12 cvX12_253 (by decide) (by first | assumption | exact hsh _ _ rfl) (Nat.le_of_ble_eq_true rfl) (Nat.le_of_eq (Nat.zero_add _)) (Nat.le_of_eq (Nat.zero_add _)) (sm_thr1 hsh (by omega)) ?_
  refine j_if_eq (tgt := 20) dX12_hear_15 rfl (by first | omega | (split <;> omega)) (fun c_15 => by exact absurd c_15 (by decide)) (fun c_15 => ?_)
  refine j_iconst dX12_hear_18 ?_
  refine j_iret dX12_hear_19 rfl ?_
  exact rI_of rfl rfl
theorem mp_hear_0 (hsh : ShOK sh) (hfx : FxOK F) (hW : WF (I 171)) (hr : 0 ≤ I 170 7 ∧ I 170 7 ≤ 12) {p x : Int} (h1 : gP (I 171) p) : jS G (d + 6) mX12_hear [jR (some 170), jI p, jI x] (sh, I, F) 0 0 (rEI (aOf (I 171) p 5) sh F (AcO 0 I (mzW (mzR I) (wHear (I 171) p x)))) := by
  have hP : WfP (I 171) := hW.1
  have g8 : aPe (I 171) ≤ 8 := hP.2
  have gp : 0 ≤ p ∧ p < 8 := by have := h1.1; have := h1.2; omega
  refine jS_go [some (jR (some 170)), some (jI p), some (jI x), none] (by decide +kernel) rfl (by simp [jone]) (Nat.le_of_ble_eq_true rfl) rfl (fun hok => ?_)
  refine j_aload_n dX12_hear_0 rfl ?_
  refine j_iconst dX12_hear_1 ?_
  refine r_putI dX12_hear_2 flX12_3 rfl (by first | assumption | exact hsh _ _ rfl) (by first | omega | (split <;> omega)) (fun q => by cases q) ?_
  skip
  have hok1 : jzok (sh, jup I 170 0 0, F) := jzok_I hok jin_lit0
  obtain ⟨I1, hI1⟩ : ∃ J, J = jup I 170 0 0 := ⟨_, rfl⟩
  rw [← hI1] at hok1 ⊢
  have hok0 := hok
  clear hok
  have hok := hok1
  have fr1 : ∀ a, a ≠ 170 → I1 a = I a := fun a ha => by rw [hI1, jup_ne _ _ _ ha]
  have fr1k : ∀ k, k ≠ 0 → I1 170 k = I 170 k := fun k hk => by rw [hI1, jup_row _ _ _ hk]
  have fr1c : I1 170 0 = 0 := by rw [hI1, jup_same]
  have hw0 : I1 171 = I 171 := fr1 171 (by decide)
  rw [← hw0] at hP h1
  have hr7 : I1 170 7 = I 170 7 := fr1k 7 (by decide)
  have eA : ∀ (J : Nat → Int → Int) (x : Int), J 171 = I 171 → J 171 x = I 171 x := fun J x h => by rw [h]
  refine j_aload_n dX12_hear_5 rfl ?_
  refine j_aload_n dX12_hear_6 rfl ?_
  refine j_iload_n dX12_hear_7 rfl ?_
  refine r_cv1I dX12_hear_8 cvX12_335 (by decide) (by first | assumption | exact hsh _ _ rfl) (Nat.le_of_ble_eq_true rfl) (Nat.le_of_eq (Nat.zero_add _)) (Nat.le_of_eq (Nat.zero_add _)) (sm_noP0 hsh hfx hok (by omega) hP h1) ?_
  refine j_iconst dX12_hear_11 ?_
  refine r_cv2I dX12_hear_12 cvX12_253 (by decide) (by first | assumption | exact hsh _ _ rfl) (Nat.le_of_ble_eq_true rfl) (Nat.le_of_eq (Nat.zero_add _)) (Nat.le_of_eq (Nat.zero_add _)) (sm_thr0 hsh) ?_
  refine j_if_eq (tgt := 20) dX12_hear_15 rfl (by first | omega | (split <;> omega)) (fun c_15 => ?_) (fun c_15 => by exact absurd c_15 (by decide))
  refine j_aload_n dX12_hear_20 rfl ?_
  refine r_cv0EV dX12_hear_21 cvX12_356 (by decide) (by first | assumption | exact hsh _ _ rfl) (Nat.le_of_ble_eq_true rfl) (Nat.le_of_eq (Nat.zero_add _)) (Nat.le_of_eq (Nat.zero_add _)) (sm_remembers hsh hfx hr7 hr) (fun J hJ => ?_)
  have eJ : J 171 = I 171 := (hJ.2.2.1 171 (by decide) (by decide)).trans (fr1 171 (by decide))
  clear hok
  refine jW_ok (fun hok => ?_)
  refine j_aload_n dX12_hear_24 rfl ?_
  refine j_iload_n dX12_hear_25 rfl ?_
  refine j_iconst dX12_hear_26 ?_
  refine r_cv2I dX12_hear_27 cvX12_68 (by decide) (by first | assumption | exact hsh _ _ rfl) (Nat.le_of_ble_eq_true rfl) (Nat.le_of_eq (Nat.zero_add _)) (Nat.le_of_eq (Nat.zero_add _)) (sm_of hsh hfx (by omega)) ?_
  rw [show aOf (J 171) p 5 = aOf (I 171) p 5 from eA J _ eJ]
  refine j_istore_n dX12_hear_30 (by decide) ?_
  refine j_aload_n dX12_hear_31 rfl ?_
  refine r_getS dX12_hear_32 flX12_13 (by first | assumption | exact hsh _ _ rfl) (fx_170_1 hfx) ?_
  refine j_iload_n dX12_hear_35 rfl ?_
  refine j_iconst dX12_hear_36 ?_
  refine r_cs2I dX12_hear_37 csX12_64 (Nat.le_of_ble_eq_true rfl) (Nat.le_of_eq (Nat.zero_add _)) (Nat.le_of_eq (Nat.zero_add _)) (sm_at) ?_
  refine j_iload_n dX12_hear_40 rfl ?_
  refine j_iconst dX12_hear_41 ?_
  refine j_aload_n dX12_hear_42 rfl ?_
  refine r_cv0I dX12_hear_43 cvX12_74 (by decide) (by first | assumption | exact hsh _ _ rfl) (Nat.le_of_ble_eq_true rfl) (Nat.le_of_eq (Nat.zero_add _)) (Nat.le_of_eq (Nat.zero_add _)) (sm_people hsh hfx) ?_
  rw [show aPe (J 171) = aPe (I 171) from eA J _ eJ]
  refine r_ishl dX12_hear_46 (fun b_46 => ?_)
  refine j_iconst dX12_hear_47 ?_
  refine j_isub dX12_hear_48 ?_
  refine r_iand dX12_hear_49 (fun b_49 => ?_)
  refine j_iconst dX12_hear_50 ?_
  refine j_iload_n dX12_hear_51 rfl ?_
  refine r_ishl dX12_hear_52 (fun b_52 => ?_)
  refine j_iconst dX12_hear_53 ?_
  refine r_ixor dX12_hear_54 (fun b_54 => ?_)
  refine r_iand dX12_hear_55 (fun b_55 => ?_)
  refine r_iastore dX12_hear_56 (by first | assumption | exact hsh _ _ rfl) (by first | omega | (split <;> omega)) (by first | omega | (split <;> omega)) (jAnd_in _ _) ?_
  refine j_iload_n dX12_hear_57 rfl ?_
  refine j_iret dX12_hear_58 rfl ?_
  exact rEI_of rfl (Ac_of fr1 fr1k fr1c hJ (fun a ha => jup_ne _ _ _ ha) (by rw [jup_at, eJ]))
theorem mp_refound_0 (hsh : ShOK sh) (hfx : FxOK F) (hW : WF (I 171)) (hr : 0 ≤ I 170 7 ∧ I 170 7 ≤ 12)  : jS G (d + 6) mX12_refound [jR (some 170)] (sh, I, F) 0 0 (rEI (I 171 8) sh F (AcO 0 I (mzW (mzR I) (wup (I 171) 8 0)))) := by
  have hP : WfP (I 171) := hW.1
  have g8 : aPe (I 171) ≤ 8 := hP.2
  refine jS_go [some (jR (some 170)), none] (by decide +kernel) rfl (by simp [jone]) (Nat.le_of_ble_eq_true rfl) rfl (fun hok => ?_)
  refine j_aload_n dX12_refound_0 rfl ?_
  refine j_iconst dX12_refound_1 ?_
  refine r_putI dX12_refound_2 flX12_3 rfl (by first | assumption | exact hsh _ _ rfl) (by first | omega | (split <;> omega)) (fun q => by cases q) ?_
  skip
  have hok1 : jzok (sh, jup I 170 0 0, F) := jzok_I hok jin_lit0
  obtain ⟨I1, hI1⟩ : ∃ J, J = jup I 170 0 0 := ⟨_, rfl⟩
  rw [← hI1] at hok1 ⊢
  have hok0 := hok
  clear hok
  have hok := hok1
  have fr1 : ∀ a, a ≠ 170 → I1 a = I a := fun a ha => by rw [hI1, jup_ne _ _ _ ha]
  have fr1k : ∀ k, k ≠ 0 → I1 170 k = I 170 k := fun k hk => by rw [hI1, jup_row _ _ _ hk]
  have fr1c : I1 170 0 = 0 := by rw [hI1, jup_same]
  have hw0 : I1 171 = I 171 := fr1 171 (by decide)
  rw [← hw0] at hP
  have hr7 : I1 170 7 = I 170 7 := fr1k 7 (by decide)
  have h01 := hW.2.2.2.1
  refine j_aload_n dX12_refound_5 rfl ?_
  refine r_cv0EV dX12_refound_6 cvX12_356 (by decide) (by first | assumption | exact hsh _ _ rfl) (Nat.le_of_ble_eq_true rfl) (Nat.le_of_eq (Nat.zero_add _)) (Nat.le_of_eq (Nat.zero_add _)) (sm_remembers hsh hfx hr7 hr) (fun J hJ => ?_)
  have eJ : J 171 = I 171 := (hJ.2.2.1 171 (by decide) (by decide)).trans (fr1 171 (by decide))
  clear hok
  refine jW_ok (fun hok => ?_)
  refine j_aload_n dX12_refound_9 rfl ?_
  refine r_cv0I dX12_refound_10 cvX12_268 (by decide) (by first | assumption | exact hsh _ _ rfl) (Nat.le_of_ble_eq_true rfl) (Nat.le_of_eq (Nat.zero_add _)) (Nat.le_of_eq (Nat.zero_add _)) (sm_hasFailed hsh hfx) ?_
  rw [show (if J 171 8 = 1 then (1 : Int) else 0) = I 171 8 by rw [eJ]; split <;> omega]
  refine j_istore_n dX12_refound_13 (by decide) ?_
  refine j_aload_n dX12_refound_14 rfl ?_
  refine r_getS dX12_refound_15 flX12_13 (by first | assumption | exact hsh _ _ rfl) (fx_170_1 hfx) ?_
  refine j_bipush dX12_refound_18 (by decide) ?_
  refine j_iconst dX12_refound_20 ?_
  refine r_iastore dX12_refound_21 (by first | assumption | exact hsh _ _ rfl) (by first | omega | (split <;> omega)) (by first | omega | (split <;> omega)) (by first | omega | (split <;> omega)) ?_
  refine j_iload_n dX12_refound_22 rfl ?_
  refine j_zret dX12_refound_23 rfl h01 ?_
  exact rEI_of rfl (Ac_of fr1 fr1k fr1c hJ (fun a ha => jup_ne _ _ _ ha) (by rw [jup_at, eJ]))
end
