/-! BOTH ARE CALLED, MORE -/
section
variable {G : jzG} {sh : List (Nat × Nat)} {I : Nat → Int → Int} {F : Nat → Int → Option Nat} {b : Int}
theorem pr_run (hI : INV b sh I F) (hb : 0 ≤ b ∧ b ≤ 800000000) {p t : Int} (jp : jin p) (zt : t = 0 ∨ t = 1) : PrC G mX11_run mX12_run [xIob, xIse] [jI p, jI t] sh I F (b + 140000) := by
  obtain ⟨hP, hC, hM, h159⟩ := id hI
  obtain ⟨hsh, hfx, hmm, hst, h12, h22⟩ := id hP
  obtain ⟨w, hw⟩ : ∃ w, I 171 = w := ⟨_, rfl⟩
  have hS : Sr sh I F 2 w := by rw [← hw]; exact hC.1
  have hR := hS.1
  have hL := hS.2.2.2
  have hG := hS.2.1
  have hO : OKw b w := by rw [← hw]; exact hM.1
  have hW := hO.1
  have hWP : WfP w := hW.1
  have hWD := WF_D hW
  have hWB := WF_B hW
  have hWA := WF_A hW
  have hWR := WF_R hW
  have h9 : 0 ≤ w 9 ∧ w 9 ≤ 900000000 := ⟨hO.2.1.1, by have := hO.2.1.2; omega⟩
  have h90 := h9.1
  have h10 := hO.2.2.2.1
  have h7 := hM.2.2.2.1
  have g8 : 0 ≤ aPe w ∧ aPe w ≤ 8 := hW.1
  by_cases g1 : gP w p
  rotate_left
  · refine PrC_x hI (c := 1) (r := 0) (cp_run_1 (G := G) (d := 34) (I := I) (F := F) (p := p) (b := t) (by assumption) (by assumption) (by assumption) (by assumption) (by assumption) (by assumption) (by assumption)) (by decide) rfl (fun X J F' hPx hA => ?_)
    have e : J 171 = w := (hA 171 (by decide) (by decide)).trans hw
    have e7 : J 170 7 = I 170 7 := by rw [hA 170 (by decide) (by decide)]
    have eX : mX J = (w, I 179, I 180, I 181) := by show (J 171, J 179, J 180, J 181) = _; rw [e, hA 179 (by decide) (by decide), hA 180 (by decide) (by decide), hA 181 (by decide) (by decide)]
    have hshX := hPx.1
    have hfxX := hPx.2.1
    have := mp_run_1 (G := G) (d := 36) (sh := sh ++ X) (I := J) (F := F') (p := p) (b := t) (by first | assumption | (rw [e]; assumption) | (rw [e7]; assumption)) (by first | assumption | (rw [e]; assumption) | (rw [e7]; assumption)) (by first | assumption | (rw [e]; assumption) | (rw [e7]; assumption)) (by first | assumption | (rw [e]; assumption) | (rw [e7]; assumption)) (by first | assumption | (rw [e]; assumption) | (rw [e7]; assumption))
    (try rw [eX] at this)
    (try rw [e] at this)
    (try rw [hA 179 (by decide) (by decide), hA 180 (by decide) (by decide), hA 181 (by decide) (by decide)] at this)
    exact this
  · skip
    have gp : 0 ≤ p ∧ p < aPe w := by have := g1.1; have := g1.2; omega
    by_cases g2 : aOf w p 3 = 0
    rotate_left
    · refine PrC_x hI (c := 2) (r := 0) (cp_run_2 (G := G) (d := 34) (I := I) (F := F) (p := p) (b := t) (by assumption) (by assumption) (by assumption) (by assumption) (by assumption) (by assumption) (by assumption)) (by decide) rfl (fun X J F' hPx hA => ?_)
      have e : J 171 = w := (hA 171 (by decide) (by decide)).trans hw
      have e7 : J 170 7 = I 170 7 := by rw [hA 170 (by decide) (by decide)]
      have eX : mX J = (w, I 179, I 180, I 181) := by show (J 171, J 179, J 180, J 181) = _; rw [e, hA 179 (by decide) (by decide), hA 180 (by decide) (by decide), hA 181 (by decide) (by decide)]
      have hshX := hPx.1
      have hfxX := hPx.2.1
      have := mp_run_2 (G := G) (d := 36) (sh := sh ++ X) (I := J) (F := F') (p := p) (b := t) (by first | assumption | (rw [e]; assumption) | (rw [e7]; assumption)) (by first | assumption | (rw [e]; assumption) | (rw [e7]; assumption)) (by first | assumption | (rw [e]; assumption) | (rw [e7]; assumption)) (by first | assumption | (rw [e]; assumption) | (rw [e7]; assumption)) (by first | assumption | (rw [e]; assumption) | (rw [e7]; assumption)) (by first | assumption | (rw [e]; assumption) | (rw [e7]; assumption))
      (try rw [eX] at this)
      (try rw [e] at this)
      (try rw [hA 179 (by decide) (by decide), hA 180 (by decide) (by decide), hA 181 (by decide) (by decide)] at this)
      exact this
    · skip
      refine PrC_q hI (cp_run_0 (G := G) (d := 34) (I := I) (F := F) (p := p) (b := t) (by assumption) (by assumption) (by assumption) (by assumption) (by assumption) (by assumption) (by assumption) (by assumption)) (fun X J F' hPx hA => ?_)
      have e : J 171 = w := (hA 171 (by decide) (by decide)).trans hw
      have e7 : J 170 7 = I 170 7 := by rw [hA 170 (by decide) (by decide)]
      have eX : mX J = (w, I 179, I 180, I 181) := by show (J 171, J 179, J 180, J 181) = _; rw [e, hA 179 (by decide) (by decide), hA 180 (by decide) (by decide), hA 181 (by decide) (by decide)]
      have hshX := hPx.1
      have hfxX := hPx.2.1
      have := mp_run_0 (G := G) (d := 36) (sh := sh ++ X) (I := J) (F := F') (p := p) (b := t) (by first | assumption | (rw [e]; assumption) | (rw [e7]; assumption)) (by first | assumption | (rw [e]; assumption) | (rw [e7]; assumption)) (by first | assumption | (rw [e]; assumption) | (rw [e7]; assumption)) (by first | assumption | (rw [e]; assumption) | (rw [e7]; assumption)) (by first | assumption | (rw [e]; assumption) | (rw [e7]; assumption)) (by first | assumption | (rw [e]; assumption) | (rw [e7]; assumption)) (by first | assumption | (rw [e]; assumption) | (rw [e7]; assumption))
      (try rw [eX] at this)
      (try rw [e] at this)
      (try rw [hA 179 (by decide) (by decide), hA 180 (by decide) (by decide), hA 181 (by decide) (by decide)] at this)
      exact this
theorem pr_spark (hI : INV b sh I F) (hb : 0 ≤ b ∧ b ≤ 800000000) : PrC G mX11_spark mX12_spark [] [] sh I F (b + 140000) := by
  obtain ⟨hP, hC, hM, h159⟩ := id hI
  obtain ⟨hsh, hfx, hmm, hst, h12, h22⟩ := id hP
  obtain ⟨w, hw⟩ : ∃ w, I 171 = w := ⟨_, rfl⟩
  have hS : Sr sh I F 2 w := by rw [← hw]; exact hC.1
  have hR := hS.1
  have hL := hS.2.2.2
  have hG := hS.2.1
  have hO : OKw b w := by rw [← hw]; exact hM.1
  have hW := hO.1
  have hWP : WfP w := hW.1
  have hWD := WF_D hW
  have hWB := WF_B hW
  have hWA := WF_A hW
  have hWR := WF_R hW
  have h9 : 0 ≤ w 9 ∧ w 9 ≤ 900000000 := ⟨hO.2.1.1, by have := hO.2.1.2; omega⟩
  have h90 := h9.1
  have h10 := hO.2.2.2.1
  have h7 := hM.2.2.2.1
  have g8 : 0 ≤ aPe w ∧ aPe w ≤ 8 := hW.1
  refine PrC_q hI (cp_spark (G := G) (d := 34) (I := I) (F := F) (by assumption) (by assumption) (by assumption) (by assumption) (by assumption)) (fun X J F' hPx hA => ?_)
  have e : J 171 = w := (hA 171 (by decide) (by decide)).trans hw
  have e7 : J 170 7 = I 170 7 := by rw [hA 170 (by decide) (by decide)]
  have eX : mX J = (w, I 179, I 180, I 181) := by show (J 171, J 179, J 180, J 181) = _; rw [e, hA 179 (by decide) (by decide), hA 180 (by decide) (by decide), hA 181 (by decide) (by decide)]
  have hshX := hPx.1
  have hfxX := hPx.2.1
  have := mp_spark (G := G) (d := 36) (sh := sh ++ X) (I := J) (F := F') (by first | assumption | (rw [e]; assumption) | (rw [e7]; assumption)) (by first | assumption | (rw [e]; assumption) | (rw [e7]; assumption)) (by first | assumption | (rw [e]; assumption) | (rw [e7]; assumption)) (by first | assumption | (rw [e]; assumption) | (rw [e7]; assumption))
  (try rw [eX] at this)
  (try rw [e] at this)
  (try rw [hA 179 (by decide) (by decide), hA 180 (by decide) (by decide), hA 181 (by decide) (by decide)] at this)
  exact this
theorem pr_reserve (hI : INV b sh I F) (hb : 0 ≤ b ∧ b ≤ 800000000) : PrC G mX11_reserve mX12_reserve [] [] sh I F (b + 140000) := by
  obtain ⟨hP, hC, hM, h159⟩ := id hI
  obtain ⟨hsh, hfx, hmm, hst, h12, h22⟩ := id hP
  obtain ⟨w, hw⟩ : ∃ w, I 171 = w := ⟨_, rfl⟩
  have hS : Sr sh I F 2 w := by rw [← hw]; exact hC.1
  have hR := hS.1
  have hL := hS.2.2.2
  have hG := hS.2.1
  have hO : OKw b w := by rw [← hw]; exact hM.1
  have hW := hO.1
  have hWP : WfP w := hW.1
  have hWD := WF_D hW
  have hWB := WF_B hW
  have hWA := WF_A hW
  have hWR := WF_R hW
  have h9 : 0 ≤ w 9 ∧ w 9 ≤ 900000000 := ⟨hO.2.1.1, by have := hO.2.1.2; omega⟩
  have h90 := h9.1
  have h10 := hO.2.2.2.1
  have h7 := hM.2.2.2.1
  have g8 : 0 ≤ aPe w ∧ aPe w ≤ 8 := hW.1
  refine PrC_q hI (cp_reserve (G := G) (d := 34) (I := I) (F := F) (by assumption) (by assumption) (by assumption) (by assumption) (by assumption)) (fun X J F' hPx hA => ?_)
  have e : J 171 = w := (hA 171 (by decide) (by decide)).trans hw
  have e7 : J 170 7 = I 170 7 := by rw [hA 170 (by decide) (by decide)]
  have eX : mX J = (w, I 179, I 180, I 181) := by show (J 171, J 179, J 180, J 181) = _; rw [e, hA 179 (by decide) (by decide), hA 180 (by decide) (by decide), hA 181 (by decide) (by decide)]
  have hshX := hPx.1
  have hfxX := hPx.2.1
  have := mp_reserve (G := G) (d := 36) (sh := sh ++ X) (I := J) (F := F') (by first | assumption | (rw [e]; assumption) | (rw [e7]; assumption)) (by first | assumption | (rw [e]; assumption) | (rw [e7]; assumption)) (by first | assumption | (rw [e]; assumption) | (rw [e7]; assumption)) (by first | assumption | (rw [e]; assumption) | (rw [e7]; assumption))
  (try rw [eX] at this)
  (try rw [e] at this)
  (try rw [hA 179 (by decide) (by decide), hA 180 (by decide) (by decide), hA 181 (by decide) (by decide)] at this)
  exact this
theorem pr_feelings (hI : INV b sh I F) (hb : 0 ≤ b ∧ b ≤ 800000000) : PrC G mX11_feelings mX12_feelings [] [] sh I F (b + 140000) := by
  obtain ⟨hP, hC, hM, h159⟩ := id hI
  obtain ⟨hsh, hfx, hmm, hst, h12, h22⟩ := id hP
  obtain ⟨w, hw⟩ : ∃ w, I 171 = w := ⟨_, rfl⟩
  have hS : Sr sh I F 2 w := by rw [← hw]; exact hC.1
  have hR := hS.1
  have hL := hS.2.2.2
  have hG := hS.2.1
  have hO : OKw b w := by rw [← hw]; exact hM.1
  have hW := hO.1
  have hWP : WfP w := hW.1
  have hWD := WF_D hW
  have hWB := WF_B hW
  have hWA := WF_A hW
  have hWR := WF_R hW
  have h9 : 0 ≤ w 9 ∧ w 9 ≤ 900000000 := ⟨hO.2.1.1, by have := hO.2.1.2; omega⟩
  have h90 := h9.1
  have h10 := hO.2.2.2.1
  have h7 := hM.2.2.2.1
  have g8 : 0 ≤ aPe w ∧ aPe w ≤ 8 := hW.1
  refine PrC_q hI (cp_feelings (G := G) (d := 39) (I := I) (F := F) (by assumption) (by assumption) (by assumption) (by assumption)) (fun X J F' hPx hA => ?_)
  have e : J 171 = w := (hA 171 (by decide) (by decide)).trans hw
  have e7 : J 170 7 = I 170 7 := by rw [hA 170 (by decide) (by decide)]
  have eX : mX J = (w, I 179, I 180, I 181) := by show (J 171, J 179, J 180, J 181) = _; rw [e, hA 179 (by decide) (by decide), hA 180 (by decide) (by decide), hA 181 (by decide) (by decide)]
  have hshX := hPx.1
  have hfxX := hPx.2.1
  have := mp_feelings (G := G) (d := 37) (sh := sh ++ X) (I := J) (F := F') (by first | assumption | (rw [e]; assumption) | (rw [e7]; assumption)) (by first | assumption | (rw [e]; assumption) | (rw [e7]; assumption)) (by first | assumption | (rw [e]; assumption) | (rw [e7]; assumption))
  (try rw [eX] at this)
  (try rw [e] at this)
  (try rw [hA 179 (by decide) (by decide), hA 180 (by decide) (by decide), hA 181 (by decide) (by decide)] at this)
  exact this
theorem pr_saint (hI : INV b sh I F) (hb : 0 ≤ b ∧ b ≤ 800000000) {x k t : Int} (jx : jin x) (jk : jin k) (zt : t = 0 ∨ t = 1) : PrC G mX11_saint mX12_saint [xIob] [jI x, jI k, jI t] sh I F (b + 140000) := by
  obtain ⟨hP, hC, hM, h159⟩ := id hI
  obtain ⟨hsh, hfx, hmm, hst, h12, h22⟩ := id hP
  obtain ⟨w, hw⟩ : ∃ w, I 171 = w := ⟨_, rfl⟩
  have hS : Sr sh I F 2 w := by rw [← hw]; exact hC.1
  have hR := hS.1
  have hL := hS.2.2.2
  have hG := hS.2.1
  have hO : OKw b w := by rw [← hw]; exact hM.1
  have hW := hO.1
  have hWP : WfP w := hW.1
  have hWD := WF_D hW
  have hWB := WF_B hW
  have hWA := WF_A hW
  have hWR := WF_R hW
  have h9 : 0 ≤ w 9 ∧ w 9 ≤ 900000000 := ⟨hO.2.1.1, by have := hO.2.1.2; omega⟩
  have h90 := h9.1
  have h10 := hO.2.2.2.1
  have h7 := hM.2.2.2.1
  have g8 : 0 ≤ aPe w ∧ aPe w ≤ 8 := hW.1
  by_cases g1 : 0 ≤ k ∧ k ≤ 6
  rotate_left
  · refine PrC_x hI (c := 1) (r := 0) (cp_saint_1 (G := G) (d := 37) (I := I) (F := F) (x := x) (k := k) (b := t) (by assumption) (by assumption) (by assumption) (by assumption)) (by decide) rfl (fun X J F' hPx hA => ?_)
    have e : J 171 = w := (hA 171 (by decide) (by decide)).trans hw
    have e7 : J 170 7 = I 170 7 := by rw [hA 170 (by decide) (by decide)]
    have eX : mX J = (w, I 179, I 180, I 181) := by show (J 171, J 179, J 180, J 181) = _; rw [e, hA 179 (by decide) (by decide), hA 180 (by decide) (by decide), hA 181 (by decide) (by decide)]
    have hshX := hPx.1
    have hfxX := hPx.2.1
    have := mp_saint_1 (G := G) (d := 36) (sh := sh ++ X) (I := J) (F := F') (x := x) (k := k) (b := t) (by first | assumption | (rw [e]; assumption) | (rw [e7]; assumption)) (by first | assumption | (rw [e]; assumption) | (rw [e7]; assumption)) (by first | assumption | (rw [e]; assumption) | (rw [e7]; assumption)) (by first | assumption | (rw [e]; assumption) | (rw [e7]; assumption))
    (try rw [eX] at this)
    (try rw [e] at this)
    (try rw [hA 179 (by decide) (by decide), hA 180 (by decide) (by decide), hA 181 (by decide) (by decide)] at this)
    exact this
  · skip
    refine PrC_q hI (cp_saint_0 (G := G) (d := 37) (I := I) (F := F) (x := x) (k := k) (b := t) (by assumption) (by assumption) (by assumption) (by assumption) (by assumption) (by assumption) (by assumption) (by assumption) (by assumption)) (fun X J F' hPx hA => ?_)
    have e : J 171 = w := (hA 171 (by decide) (by decide)).trans hw
    have e7 : J 170 7 = I 170 7 := by rw [hA 170 (by decide) (by decide)]
    have eX : mX J = (w, I 179, I 180, I 181) := by show (J 171, J 179, J 180, J 181) = _; rw [e, hA 179 (by decide) (by decide), hA 180 (by decide) (by decide), hA 181 (by decide) (by decide)]
    have hshX := hPx.1
    have hfxX := hPx.2.1
    have := mp_saint_0 (G := G) (d := 36) (sh := sh ++ X) (I := J) (F := F') (x := x) (k := k) (b := t) (by first | assumption | (rw [e]; assumption) | (rw [e7]; assumption)) (by first | assumption | (rw [e]; assumption) | (rw [e7]; assumption)) (by first | assumption | (rw [e]; assumption) | (rw [e7]; assumption)) (by first | assumption | (rw [e]; assumption) | (rw [e7]; assumption)) (by first | assumption | (rw [e]; assumption) | (rw [e7]; assumption)) (by first | assumption | (rw [e]; assumption) | (rw [e7]; assumption)) (by first | assumption | (rw [e]; assumption) | (rw [e7]; assumption)) (by first | assumption | (rw [e]; assumption) | (rw [e7]; assumption))
    (try rw [eX] at this)
    (try rw [e] at this)
    (try rw [hA 179 (by decide) (by decide), hA 180 (by decide) (by decide), hA 181 (by decide) (by decide)] at this)
    exact this
theorem pr_share (hI : INV b sh I F) (hb : 0 ≤ b ∧ b ≤ 800000000) {p q : Int} (jp : jin p) (jq : jin q) : PrC G mX11_share mX12_share [xIob, xIae, xIse] [jI p, jI q] sh I F (b + 140000) := by
  obtain ⟨hP, hC, hM, h159⟩ := id hI
  obtain ⟨hsh, hfx, hmm, hst, h12, h22⟩ := id hP
  obtain ⟨w, hw⟩ : ∃ w, I 171 = w := ⟨_, rfl⟩
  have hS : Sr sh I F 2 w := by rw [← hw]; exact hC.1
  have hR := hS.1
  have hL := hS.2.2.2
  have hG := hS.2.1
  have hO : OKw b w := by rw [← hw]; exact hM.1
  have hW := hO.1
  have hWP : WfP w := hW.1
  have hWD := WF_D hW
  have hWB := WF_B hW
  have hWA := WF_A hW
  have hWR := WF_R hW
  have h9 : 0 ≤ w 9 ∧ w 9 ≤ 900000000 := ⟨hO.2.1.1, by have := hO.2.1.2; omega⟩
  have h90 := h9.1
  have h10 := hO.2.2.2.1
  have h7 := hM.2.2.2.1
  have g8 : 0 ≤ aPe w ∧ aPe w ≤ 8 := hW.1
  by_cases g1 : gP w p ∧ gP w q
  rotate_left
  · refine PrC_x hI (c := 1) (r := 0) (cp_share_1 (G := G) (d := 37) (I := I) (F := F) (p := p) (q := q) (by assumption) (by assumption) (by assumption) (by assumption) (by assumption) (by assumption)) (by decide) rfl (fun X J F' hPx hA => ?_)
    have e : J 171 = w := (hA 171 (by decide) (by decide)).trans hw
    have e7 : J 170 7 = I 170 7 := by rw [hA 170 (by decide) (by decide)]
    have eX : mX J = (w, I 179, I 180, I 181) := by show (J 171, J 179, J 180, J 181) = _; rw [e, hA 179 (by decide) (by decide), hA 180 (by decide) (by decide), hA 181 (by decide) (by decide)]
    have hshX := hPx.1
    have hfxX := hPx.2.1
    have := mp_share_1 (G := G) (d := 36) (sh := sh ++ X) (I := J) (F := F') (p := p) (q := q) (by first | assumption | (rw [e]; assumption) | (rw [e7]; assumption)) (by first | assumption | (rw [e]; assumption) | (rw [e7]; assumption)) (by first | assumption | (rw [e]; assumption) | (rw [e7]; assumption)) (by first | assumption | (rw [e]; assumption) | (rw [e7]; assumption)) (by first | assumption | (rw [e]; assumption) | (rw [e7]; assumption)) (by first | assumption | (rw [e]; assumption) | (rw [e7]; assumption))
    (try rw [eX] at this)
    (try rw [e] at this)
    (try rw [hA 179 (by decide) (by decide), hA 180 (by decide) (by decide), hA 181 (by decide) (by decide)] at this)
    exact this
  · skip
    have gp : 0 ≤ p ∧ p < aPe w := by have := g1.1.1; have := g1.1.2; omega
    have gq : 0 ≤ q ∧ q < aPe w := by have := g1.2.1; have := g1.2.2; omega
    have g1p := g1.1
    have g1q := g1.2
    by_cases g2 : p = q
    · refine PrC_x hI (c := 2) (r := 0) (cp_share_2 (G := G) (d := 37) (I := I) (F := F) (p := p) (q := q) (by assumption) (by assumption) (by assumption) (by assumption) (by assumption) (by assumption) (by assumption)) (by decide) rfl (fun X J F' hPx hA => ?_)
      have e : J 171 = w := (hA 171 (by decide) (by decide)).trans hw
      have e7 : J 170 7 = I 170 7 := by rw [hA 170 (by decide) (by decide)]
      have eX : mX J = (w, I 179, I 180, I 181) := by show (J 171, J 179, J 180, J 181) = _; rw [e, hA 179 (by decide) (by decide), hA 180 (by decide) (by decide), hA 181 (by decide) (by decide)]
      have hshX := hPx.1
      have hfxX := hPx.2.1
      have := mp_share_2 (G := G) (d := 36) (sh := sh ++ X) (I := J) (F := F') (p := p) (q := q) (by first | assumption | (rw [e]; assumption) | (rw [e7]; assumption)) (by first | assumption | (rw [e]; assumption) | (rw [e7]; assumption)) (by first | assumption | (rw [e]; assumption) | (rw [e7]; assumption)) (by first | assumption | (rw [e]; assumption) | (rw [e7]; assumption)) (by first | assumption | (rw [e]; assumption) | (rw [e7]; assumption)) (by first | assumption | (rw [e]; assumption) | (rw [e7]; assumption)) (by first | assumption | (rw [e]; assumption) | (rw [e7]; assumption))
      (try rw [eX] at this)
      (try rw [e] at this)
      (try rw [hA 179 (by decide) (by decide), hA 180 (by decide) (by decide), hA 181 (by decide) (by decide)] at this)
      exact this
    · skip
      by_cases g3 : aOf w p 3 = 0 ∧ aOf w q 3 = 0
      rotate_left
      · refine PrC_x hI (c := 3) (r := 0) (cp_share_3 (G := G) (d := 37) (I := I) (F := F) (p := p) (q := q) (by assumption) (by assumption) (by assumption) (by assumption) (by assumption) (by assumption) (by assumption) (by assumption) (by assumption)) (by decide) rfl (fun X J F' hPx hA => ?_)
        have e : J 171 = w := (hA 171 (by decide) (by decide)).trans hw
        have e7 : J 170 7 = I 170 7 := by rw [hA 170 (by decide) (by decide)]
        have eX : mX J = (w, I 179, I 180, I 181) := by show (J 171, J 179, J 180, J 181) = _; rw [e, hA 179 (by decide) (by decide), hA 180 (by decide) (by decide), hA 181 (by decide) (by decide)]
        have hshX := hPx.1
        have hfxX := hPx.2.1
        have := mp_share_3 (G := G) (d := 36) (sh := sh ++ X) (I := J) (F := F') (p := p) (q := q) (by first | assumption | (rw [e]; assumption) | (rw [e7]; assumption)) (by first | assumption | (rw [e]; assumption) | (rw [e7]; assumption)) (by first | assumption | (rw [e]; assumption) | (rw [e7]; assumption)) (by first | assumption | (rw [e]; assumption) | (rw [e7]; assumption)) (by first | assumption | (rw [e]; assumption) | (rw [e7]; assumption)) (by first | assumption | (rw [e]; assumption) | (rw [e7]; assumption)) (by first | assumption | (rw [e]; assumption) | (rw [e7]; assumption)) (by first | assumption | (rw [e]; assumption) | (rw [e7]; assumption))
        (try rw [eX] at this)
        (try rw [e] at this)
        (try rw [hA 179 (by decide) (by decide), hA 180 (by decide) (by decide), hA 181 (by decide) (by decide)] at this)
        exact this
      · skip
        refine PrC_q hI (cp_share_0 (G := G) (d := 37) (I := I) (F := F) (p := p) (q := q) (by assumption) (by assumption) (by assumption) (by assumption) (by assumption) (by assumption) (by assumption) (by assumption) (by assumption) (by assumption) (by assumption) (by assumption)) (fun X J F' hPx hA => ?_)
        have e : J 171 = w := (hA 171 (by decide) (by decide)).trans hw
        have e7 : J 170 7 = I 170 7 := by rw [hA 170 (by decide) (by decide)]
        have eX : mX J = (w, I 179, I 180, I 181) := by show (J 171, J 179, J 180, J 181) = _; rw [e, hA 179 (by decide) (by decide), hA 180 (by decide) (by decide), hA 181 (by decide) (by decide)]
        have hshX := hPx.1
        have hfxX := hPx.2.1
        have := mp_share_0 (G := G) (d := 36) (sh := sh ++ X) (I := J) (F := F') (p := p) (q := q) (by first | assumption | (rw [e]; assumption) | (rw [e7]; assumption)) (by first | assumption | (rw [e]; assumption) | (rw [e7]; assumption)) (by first | assumption | (rw [e]; assumption) | (rw [e7]; assumption)) (by first | assumption | (rw [e]; assumption) | (rw [e7]; assumption)) (by first | assumption | (rw [e]; assumption) | (rw [e7]; assumption)) (by first | assumption | (rw [e]; assumption) | (rw [e7]; assumption)) (by first | assumption | (rw [e]; assumption) | (rw [e7]; assumption)) (by first | assumption | (rw [e]; assumption) | (rw [e7]; assumption)) (by first | assumption | (rw [e]; assumption) | (rw [e7]; assumption)) (by first | assumption | (rw [e]; assumption) | (rw [e7]; assumption)) (by first | assumption | (rw [e]; assumption) | (rw [e7]; assumption))
        (try rw [eX] at this)
        (try rw [e] at this)
        (try rw [hA 179 (by decide) (by decide), hA 180 (by decide) (by decide), hA 181 (by decide) (by decide)] at this)
        exact this
theorem pr_shares (hI : INV b sh I F) (hb : 0 ≤ b ∧ b ≤ 800000000) {p q : Int} (jp : jin p) (jq : jin q) : PrC G mX11_shares mX12_shares [xIob, xIae, xIse] [jI p, jI q] sh I F (b + 140000) := by
  obtain ⟨hP, hC, hM, h159⟩ := id hI
  obtain ⟨hsh, hfx, hmm, hst, h12, h22⟩ := id hP
  obtain ⟨w, hw⟩ : ∃ w, I 171 = w := ⟨_, rfl⟩
  have hS : Sr sh I F 2 w := by rw [← hw]; exact hC.1
  have hR := hS.1
  have hL := hS.2.2.2
  have hG := hS.2.1
  have hO : OKw b w := by rw [← hw]; exact hM.1
  have hW := hO.1
  have hWP : WfP w := hW.1
  have hWD := WF_D hW
  have hWB := WF_B hW
  have hWA := WF_A hW
  have hWR := WF_R hW
  have h9 : 0 ≤ w 9 ∧ w 9 ≤ 900000000 := ⟨hO.2.1.1, by have := hO.2.1.2; omega⟩
  have h90 := h9.1
  have h10 := hO.2.2.2.1
  have h7 := hM.2.2.2.1
  have g8 : 0 ≤ aPe w ∧ aPe w ≤ 8 := hW.1
  by_cases g1 : gP w p ∧ gP w q
  rotate_left
  · refine PrC_x hI (c := 1) (r := 0) (cp_shares_1 (G := G) (d := 37) (I := I) (F := F) (p := p) (q := q) (by assumption) (by assumption) (by assumption) (by assumption) (by assumption) (by assumption)) (by decide) rfl (fun X J F' hPx hA => ?_)
    have e : J 171 = w := (hA 171 (by decide) (by decide)).trans hw
    have e7 : J 170 7 = I 170 7 := by rw [hA 170 (by decide) (by decide)]
    have eX : mX J = (w, I 179, I 180, I 181) := by show (J 171, J 179, J 180, J 181) = _; rw [e, hA 179 (by decide) (by decide), hA 180 (by decide) (by decide), hA 181 (by decide) (by decide)]
    have hshX := hPx.1
    have hfxX := hPx.2.1
    have := mp_shares_1 (G := G) (d := 36) (sh := sh ++ X) (I := J) (F := F') (p := p) (q := q) (by first | assumption | (rw [e]; assumption) | (rw [e7]; assumption)) (by first | assumption | (rw [e]; assumption) | (rw [e7]; assumption)) (by first | assumption | (rw [e]; assumption) | (rw [e7]; assumption)) (by first | assumption | (rw [e]; assumption) | (rw [e7]; assumption)) (by first | assumption | (rw [e]; assumption) | (rw [e7]; assumption)) (by first | assumption | (rw [e]; assumption) | (rw [e7]; assumption))
    (try rw [eX] at this)
    (try rw [e] at this)
    (try rw [hA 179 (by decide) (by decide), hA 180 (by decide) (by decide), hA 181 (by decide) (by decide)] at this)
    exact this
  · skip
    have gp : 0 ≤ p ∧ p < aPe w := by have := g1.1.1; have := g1.1.2; omega
    have gq : 0 ≤ q ∧ q < aPe w := by have := g1.2.1; have := g1.2.2; omega
    have g1p := g1.1
    have g1q := g1.2
    by_cases g2 : p = q
    · refine PrC_x hI (c := 2) (r := 0) (cp_shares_2 (G := G) (d := 37) (I := I) (F := F) (p := p) (q := q) (by assumption) (by assumption) (by assumption) (by assumption) (by assumption) (by assumption) (by assumption)) (by decide) rfl (fun X J F' hPx hA => ?_)
      have e : J 171 = w := (hA 171 (by decide) (by decide)).trans hw
      have e7 : J 170 7 = I 170 7 := by rw [hA 170 (by decide) (by decide)]
      have eX : mX J = (w, I 179, I 180, I 181) := by show (J 171, J 179, J 180, J 181) = _; rw [e, hA 179 (by decide) (by decide), hA 180 (by decide) (by decide), hA 181 (by decide) (by decide)]
      have hshX := hPx.1
      have hfxX := hPx.2.1
      have := mp_shares_2 (G := G) (d := 36) (sh := sh ++ X) (I := J) (F := F') (p := p) (q := q) (by first | assumption | (rw [e]; assumption) | (rw [e7]; assumption)) (by first | assumption | (rw [e]; assumption) | (rw [e7]; assumption)) (by first | assumption | (rw [e]; assumption) | (rw [e7]; assumption)) (by first | assumption | (rw [e]; assumption) | (rw [e7]; assumption)) (by first | assumption | (rw [e]; assumption) | (rw [e7]; assumption)) (by first | assumption | (rw [e]; assumption) | (rw [e7]; assumption)) (by first | assumption | (rw [e]; assumption) | (rw [e7]; assumption))
      (try rw [eX] at this)
      (try rw [e] at this)
      (try rw [hA 179 (by decide) (by decide), hA 180 (by decide) (by decide), hA 181 (by decide) (by decide)] at this)
      exact this
    · skip
      by_cases g3 : aOf w p 3 = 0 ∧ aOf w q 3 = 0
      rotate_left
      · refine PrC_x hI (c := 3) (r := 0) (cp_shares_3 (G := G) (d := 37) (I := I) (F := F) (p := p) (q := q) (by assumption) (by assumption) (by assumption) (by assumption) (by assumption) (by assumption) (by assumption) (by assumption) (by assumption)) (by decide) rfl (fun X J F' hPx hA => ?_)
        have e : J 171 = w := (hA 171 (by decide) (by decide)).trans hw
        have e7 : J 170 7 = I 170 7 := by rw [hA 170 (by decide) (by decide)]
        have eX : mX J = (w, I 179, I 180, I 181) := by show (J 171, J 179, J 180, J 181) = _; rw [e, hA 179 (by decide) (by decide), hA 180 (by decide) (by decide), hA 181 (by decide) (by decide)]
        have hshX := hPx.1
        have hfxX := hPx.2.1
        have := mp_shares_3 (G := G) (d := 36) (sh := sh ++ X) (I := J) (F := F') (p := p) (q := q) (by first | assumption | (rw [e]; assumption) | (rw [e7]; assumption)) (by first | assumption | (rw [e]; assumption) | (rw [e7]; assumption)) (by first | assumption | (rw [e]; assumption) | (rw [e7]; assumption)) (by first | assumption | (rw [e]; assumption) | (rw [e7]; assumption)) (by first | assumption | (rw [e]; assumption) | (rw [e7]; assumption)) (by first | assumption | (rw [e]; assumption) | (rw [e7]; assumption)) (by first | assumption | (rw [e]; assumption) | (rw [e7]; assumption)) (by first | assumption | (rw [e]; assumption) | (rw [e7]; assumption))
        (try rw [eX] at this)
        (try rw [e] at this)
        (try rw [hA 179 (by decide) (by decide), hA 180 (by decide) (by decide), hA 181 (by decide) (by decide)] at this)
        exact this
      · skip
        refine PrC_q hI (cp_shares_0 (G := G) (d := 37) (I := I) (F := F) (p := p) (q := q) (by assumption) (by assumption) (by assumption) (by assumption) (by assumption) (by assumption) (by assumption) (by assumption) (by assumption) (by assumption) (by assumption) (by assumption)) (fun X J F' hPx hA => ?_)
        have e : J 171 = w := (hA 171 (by decide) (by decide)).trans hw
        have e7 : J 170 7 = I 170 7 := by rw [hA 170 (by decide) (by decide)]
        have eX : mX J = (w, I 179, I 180, I 181) := by show (J 171, J 179, J 180, J 181) = _; rw [e, hA 179 (by decide) (by decide), hA 180 (by decide) (by decide), hA 181 (by decide) (by decide)]
        have hshX := hPx.1
        have hfxX := hPx.2.1
        have := mp_shares_0 (G := G) (d := 36) (sh := sh ++ X) (I := J) (F := F') (p := p) (q := q) (by first | assumption | (rw [e]; assumption) | (rw [e7]; assumption)) (by first | assumption | (rw [e]; assumption) | (rw [e7]; assumption)) (by first | assumption | (rw [e]; assumption) | (rw [e7]; assumption)) (by first | assumption | (rw [e]; assumption) | (rw [e7]; assumption)) (by first | assumption | (rw [e]; assumption) | (rw [e7]; assumption)) (by first | assumption | (rw [e]; assumption) | (rw [e7]; assumption)) (by first | assumption | (rw [e]; assumption) | (rw [e7]; assumption)) (by first | assumption | (rw [e]; assumption) | (rw [e7]; assumption)) (by first | assumption | (rw [e]; assumption) | (rw [e7]; assumption)) (by first | assumption | (rw [e]; assumption) | (rw [e7]; assumption)) (by first | assumption | (rw [e]; assumption) | (rw [e7]; assumption)) (by first | assumption | (rw [e]; assumption) | (rw [e7]; assumption))
        (try rw [eX] at this)
        (try rw [e] at this)
        (try rw [hA 179 (by decide) (by decide), hA 180 (by decide) (by decide), hA 181 (by decide) (by decide)] at this)
        exact this
theorem pr_could (hI : INV b sh I F) (hb : 0 ≤ b ∧ b ≤ 800000000) {p : Int} (jp : jin p) : PrC G mX11_could mX12_could [xIob] [jI p] sh I F (b + 140000) := by
  obtain ⟨hP, hC, hM, h159⟩ := id hI
  obtain ⟨hsh, hfx, hmm, hst, h12, h22⟩ := id hP
  obtain ⟨w, hw⟩ : ∃ w, I 171 = w := ⟨_, rfl⟩
  have hS : Sr sh I F 2 w := by rw [← hw]; exact hC.1
  have hR := hS.1
  have hL := hS.2.2.2
  have hG := hS.2.1
  have hO : OKw b w := by rw [← hw]; exact hM.1
  have hW := hO.1
  have hWP : WfP w := hW.1
  have hWD := WF_D hW
  have hWB := WF_B hW
  have hWA := WF_A hW
  have hWR := WF_R hW
  have h9 : 0 ≤ w 9 ∧ w 9 ≤ 900000000 := ⟨hO.2.1.1, by have := hO.2.1.2; omega⟩
  have h90 := h9.1
  have h10 := hO.2.2.2.1
  have h7 := hM.2.2.2.1
  have g8 : 0 ≤ aPe w ∧ aPe w ≤ 8 := hW.1
  by_cases g1 : gP w p
  rotate_left
  · refine PrC_x hI (c := 1) (r := 0) (cp_could_1 (G := G) (d := 34) (I := I) (F := F) (p := p) (by assumption) (by assumption) (by assumption) (by assumption) (by assumption) (by assumption) (by assumption)) (by decide) rfl (fun X J F' hPx hA => ?_)
    have e : J 171 = w := (hA 171 (by decide) (by decide)).trans hw
    have e7 : J 170 7 = I 170 7 := by rw [hA 170 (by decide) (by decide)]
    have eX : mX J = (w, I 179, I 180, I 181) := by show (J 171, J 179, J 180, J 181) = _; rw [e, hA 179 (by decide) (by decide), hA 180 (by decide) (by decide), hA 181 (by decide) (by decide)]
    have hshX := hPx.1
    have hfxX := hPx.2.1
    have := mp_could_1 (G := G) (d := 36) (sh := sh ++ X) (I := J) (F := F') (p := p) (by first | assumption | (rw [e]; assumption) | (rw [e7]; assumption)) (by first | assumption | (rw [e]; assumption) | (rw [e7]; assumption)) (by first | assumption | (rw [e]; assumption) | (rw [e7]; assumption)) (by first | assumption | (rw [e]; assumption) | (rw [e7]; assumption)) (by first | assumption | (rw [e]; assumption) | (rw [e7]; assumption))
    (try rw [eX] at this)
    (try rw [e] at this)
    (try rw [hA 179 (by decide) (by decide), hA 180 (by decide) (by decide), hA 181 (by decide) (by decide)] at this)
    exact this
  · skip
    have gp : 0 ≤ p ∧ p < aPe w := by have := g1.1; have := g1.2; omega
    refine PrC_q hI (cp_could_0 (G := G) (d := 34) (I := I) (F := F) (p := p) (by assumption) (by assumption) (by assumption) (by assumption) (by assumption) (by assumption)) (fun X J F' hPx hA => ?_)
    have e : J 171 = w := (hA 171 (by decide) (by decide)).trans hw
    have e7 : J 170 7 = I 170 7 := by rw [hA 170 (by decide) (by decide)]
    have eX : mX J = (w, I 179, I 180, I 181) := by show (J 171, J 179, J 180, J 181) = _; rw [e, hA 179 (by decide) (by decide), hA 180 (by decide) (by decide), hA 181 (by decide) (by decide)]
    have hshX := hPx.1
    have hfxX := hPx.2.1
    have := mp_could_0 (G := G) (d := 36) (sh := sh ++ X) (I := J) (F := F') (p := p) (by first | assumption | (rw [e]; assumption) | (rw [e7]; assumption)) (by first | assumption | (rw [e]; assumption) | (rw [e7]; assumption)) (by first | assumption | (rw [e]; assumption) | (rw [e7]; assumption)) (by first | assumption | (rw [e]; assumption) | (rw [e7]; assumption)) (by first | assumption | (rw [e]; assumption) | (rw [e7]; assumption)) (by first | assumption | (rw [e]; assumption) | (rw [e7]; assumption)) (by first | assumption | (rw [e]; assumption) | (rw [e7]; assumption))
    (try rw [eX] at this)
    (try rw [e] at this)
    (try rw [hA 179 (by decide) (by decide), hA 180 (by decide) (by decide), hA 181 (by decide) (by decide)] at this)
    exact this
theorem pr_fewest (hI : INV b sh I F) (hb : 0 ≤ b ∧ b ≤ 800000000) : PrC G mX11_fewest mX12_fewest [] [] sh I F (b + 140000) := by
  obtain ⟨hP, hC, hM, h159⟩ := id hI
  obtain ⟨hsh, hfx, hmm, hst, h12, h22⟩ := id hP
  obtain ⟨w, hw⟩ : ∃ w, I 171 = w := ⟨_, rfl⟩
  have hS : Sr sh I F 2 w := by rw [← hw]; exact hC.1
  have hR := hS.1
  have hL := hS.2.2.2
  have hG := hS.2.1
  have hO : OKw b w := by rw [← hw]; exact hM.1
  have hW := hO.1
  have hWP : WfP w := hW.1
  have hWD := WF_D hW
  have hWB := WF_B hW
  have hWA := WF_A hW
  have hWR := WF_R hW
  have h9 : 0 ≤ w 9 ∧ w 9 ≤ 900000000 := ⟨hO.2.1.1, by have := hO.2.1.2; omega⟩
  have h90 := h9.1
  have h10 := hO.2.2.2.1
  have h7 := hM.2.2.2.1
  have g8 : 0 ≤ aPe w ∧ aPe w ≤ 8 := hW.1
  refine PrC_q hI (cp_fewest (G := G) (d := 34) (I := I) (F := F) (by assumption) (by assumption) (by assumption) (by assumption) (by assumption)) (fun X J F' hPx hA => ?_)
  have e : J 171 = w := (hA 171 (by decide) (by decide)).trans hw
  have e7 : J 170 7 = I 170 7 := by rw [hA 170 (by decide) (by decide)]
  have eX : mX J = (w, I 179, I 180, I 181) := by show (J 171, J 179, J 180, J 181) = _; rw [e, hA 179 (by decide) (by decide), hA 180 (by decide) (by decide), hA 181 (by decide) (by decide)]
  have hshX := hPx.1
  have hfxX := hPx.2.1
  have := mp_fewest (G := G) (d := 35) (sh := sh ++ X) (I := J) (F := F') (by first | assumption | (rw [e]; assumption) | (rw [e7]; assumption)) (by first | assumption | (rw [e]; assumption) | (rw [e7]; assumption)) (by first | assumption | (rw [e]; assumption) | (rw [e7]; assumption)) (by first | assumption | (rw [e]; assumption) | (rw [e7]; assumption)) (by first | assumption | (rw [e]; assumption) | (rw [e7]; assumption)) (by first | assumption | (rw [e]; assumption) | (rw [e7]; assumption))
  (try rw [eX] at this)
  (try rw [e] at this)
  (try rw [hA 179 (by decide) (by decide), hA 180 (by decide) (by decide), hA 181 (by decide) (by decide)] at this)
  exact this
theorem pr_quiet (hI : INV b sh I F) (hb : 0 ≤ b ∧ b ≤ 800000000) {t : Int} (zt : t = 0 ∨ t = 1) : PrC G mX11_quiet mX12_quiet [] [jI t] sh I F (b + 140000) := by
  obtain ⟨hP, hC, hM, h159⟩ := id hI
  obtain ⟨hsh, hfx, hmm, hst, h12, h22⟩ := id hP
  obtain ⟨w, hw⟩ : ∃ w, I 171 = w := ⟨_, rfl⟩
  have hS : Sr sh I F 2 w := by rw [← hw]; exact hC.1
  have hR := hS.1
  have hL := hS.2.2.2
  have hG := hS.2.1
  have hO : OKw b w := by rw [← hw]; exact hM.1
  have hW := hO.1
  have hWP : WfP w := hW.1
  have hWD := WF_D hW
  have hWB := WF_B hW
  have hWA := WF_A hW
  have hWR := WF_R hW
  have h9 : 0 ≤ w 9 ∧ w 9 ≤ 900000000 := ⟨hO.2.1.1, by have := hO.2.1.2; omega⟩
  have h90 := h9.1
  have h10 := hO.2.2.2.1
  have h7 := hM.2.2.2.1
  have g8 : 0 ≤ aPe w ∧ aPe w ≤ 8 := hW.1
  refine PrC_q hI (cp_quiet (G := G) (d := 34) (I := I) (F := F) (b := t) (by assumption) (by assumption) (by assumption) (by assumption) (by assumption) (by assumption)) (fun X J F' hPx hA => ?_)
  have e : J 171 = w := (hA 171 (by decide) (by decide)).trans hw
  have e7 : J 170 7 = I 170 7 := by rw [hA 170 (by decide) (by decide)]
  have eX : mX J = (w, I 179, I 180, I 181) := by show (J 171, J 179, J 180, J 181) = _; rw [e, hA 179 (by decide) (by decide), hA 180 (by decide) (by decide), hA 181 (by decide) (by decide)]
  have hshX := hPx.1
  have hfxX := hPx.2.1
  have := mp_quiet (G := G) (d := 36) (sh := sh ++ X) (I := J) (F := F') (b := t) (by first | assumption | (rw [e]; assumption) | (rw [e7]; assumption)) (by first | assumption | (rw [e]; assumption) | (rw [e7]; assumption)) (by first | assumption | (rw [e]; assumption) | (rw [e7]; assumption)) (by first | assumption | (rw [e]; assumption) | (rw [e7]; assumption)) (by first | assumption | (rw [e]; assumption) | (rw [e7]; assumption))
  (try rw [eX] at this)
  (try rw [e] at this)
  (try rw [hA 179 (by decide) (by decide), hA 180 (by decide) (by decide), hA 181 (by decide) (by decide)] at this)
  exact this
theorem pr_peak (hI : INV b sh I F) (hb : 0 ≤ b ∧ b ≤ 800000000) {p n t : Int} (jp : jin p) (jn : jin n) (zt : t = 0 ∨ t = 1) : PrC G mX11_peak mX12_peak [xIob, xIae, xIse] [jI p, jI n, jI t] sh I F (b + 140000) := by
  obtain ⟨hP, hC, hM, h159⟩ := id hI
  obtain ⟨hsh, hfx, hmm, hst, h12, h22⟩ := id hP
  obtain ⟨w, hw⟩ : ∃ w, I 171 = w := ⟨_, rfl⟩
  have hS : Sr sh I F 2 w := by rw [← hw]; exact hC.1
  have hR := hS.1
  have hL := hS.2.2.2
  have hG := hS.2.1
  have hO : OKw b w := by rw [← hw]; exact hM.1
  have hW := hO.1
  have hWP : WfP w := hW.1
  have hWD := WF_D hW
  have hWB := WF_B hW
  have hWA := WF_A hW
  have hWR := WF_R hW
  have h9 : 0 ≤ w 9 ∧ w 9 ≤ 900000000 := ⟨hO.2.1.1, by have := hO.2.1.2; omega⟩
  have h90 := h9.1
  have h10 := hO.2.2.2.1
  have h7 := hM.2.2.2.1
  have g8 : 0 ≤ aPe w ∧ aPe w ≤ 8 := hW.1
  by_cases g1 : gP w p
  rotate_left
  · refine PrC_x hI (c := 1) (r := 0) (cp_peak_1 (G := G) (d := 31) (I := I) (F := F) (p := p) (n := n) (b := t) (by assumption) (by assumption) (by assumption) (by assumption) (by assumption)) (by decide) rfl (fun X J F' hPx hA => ?_)
    have e : J 171 = w := (hA 171 (by decide) (by decide)).trans hw
    have e7 : J 170 7 = I 170 7 := by rw [hA 170 (by decide) (by decide)]
    have eX : mX J = (w, I 179, I 180, I 181) := by show (J 171, J 179, J 180, J 181) = _; rw [e, hA 179 (by decide) (by decide), hA 180 (by decide) (by decide), hA 181 (by decide) (by decide)]
    have hshX := hPx.1
    have hfxX := hPx.2.1
    have := mp_peak_1 (G := G) (d := 32) (sh := sh ++ X) (I := J) (F := F') (p := p) (n := n) (b := t) (by first | assumption | (rw [e]; assumption) | (rw [e7]; assumption)) (by first | assumption | (rw [e]; assumption) | (rw [e7]; assumption)) (by first | assumption | (rw [e]; assumption) | (rw [e7]; assumption)) (by first | assumption | (rw [e]; assumption) | (rw [e7]; assumption)) (by first | assumption | (rw [e]; assumption) | (rw [e7]; assumption))
    (try rw [eX] at this)
    (try rw [e] at this)
    (try rw [hA 179 (by decide) (by decide), hA 180 (by decide) (by decide), hA 181 (by decide) (by decide)] at this)
    exact this
  · skip
    have gp : 0 ≤ p ∧ p < aPe w := by have := g1.1; have := g1.2; omega
    by_cases g2 : 1 ≤ n ∧ n ≤ 60
    rotate_left
    · refine PrC_x hI (c := 2) (r := 0) (cp_peak_2 (G := G) (d := 31) (I := I) (F := F) (p := p) (n := n) (b := t) (by assumption) (by assumption) (by assumption) (by assumption) (by assumption) (by assumption)) (by decide) rfl (fun X J F' hPx hA => ?_)
      have e : J 171 = w := (hA 171 (by decide) (by decide)).trans hw
      have e7 : J 170 7 = I 170 7 := by rw [hA 170 (by decide) (by decide)]
      have eX : mX J = (w, I 179, I 180, I 181) := by show (J 171, J 179, J 180, J 181) = _; rw [e, hA 179 (by decide) (by decide), hA 180 (by decide) (by decide), hA 181 (by decide) (by decide)]
      have hshX := hPx.1
      have hfxX := hPx.2.1
      have := mp_peak_2 (G := G) (d := 32) (sh := sh ++ X) (I := J) (F := F') (p := p) (n := n) (b := t) (by first | assumption | (rw [e]; assumption) | (rw [e7]; assumption)) (by first | assumption | (rw [e]; assumption) | (rw [e7]; assumption)) (by first | assumption | (rw [e]; assumption) | (rw [e7]; assumption)) (by first | assumption | (rw [e]; assumption) | (rw [e7]; assumption)) (by first | assumption | (rw [e]; assumption) | (rw [e7]; assumption)) (by first | assumption | (rw [e]; assumption) | (rw [e7]; assumption))
      (try rw [eX] at this)
      (try rw [e] at this)
      (try rw [hA 179 (by decide) (by decide), hA 180 (by decide) (by decide), hA 181 (by decide) (by decide)] at this)
      exact this
    · skip
      by_cases g3 : aOf w p 3 = 0
      rotate_left
      · refine PrC_x hI (c := 3) (r := 0) (cp_peak_3 (G := G) (d := 31) (I := I) (F := F) (p := p) (n := n) (b := t) (by assumption) (by assumption) (by assumption) (by assumption) (by assumption) (by assumption) (by assumption)) (by decide) rfl (fun X J F' hPx hA => ?_)
        have e : J 171 = w := (hA 171 (by decide) (by decide)).trans hw
        have e7 : J 170 7 = I 170 7 := by rw [hA 170 (by decide) (by decide)]
        have eX : mX J = (w, I 179, I 180, I 181) := by show (J 171, J 179, J 180, J 181) = _; rw [e, hA 179 (by decide) (by decide), hA 180 (by decide) (by decide), hA 181 (by decide) (by decide)]
        have hshX := hPx.1
        have hfxX := hPx.2.1
        have := mp_peak_3 (G := G) (d := 32) (sh := sh ++ X) (I := J) (F := F') (p := p) (n := n) (b := t) (by first | assumption | (rw [e]; assumption) | (rw [e7]; assumption)) (by first | assumption | (rw [e]; assumption) | (rw [e7]; assumption)) (by first | assumption | (rw [e]; assumption) | (rw [e7]; assumption)) (by first | assumption | (rw [e]; assumption) | (rw [e7]; assumption)) (by first | assumption | (rw [e]; assumption) | (rw [e7]; assumption)) (by first | assumption | (rw [e]; assumption) | (rw [e7]; assumption))
        (try rw [eX] at this)
        (try rw [e] at this)
        (try rw [hA 179 (by decide) (by decide), hA 180 (by decide) (by decide), hA 181 (by decide) (by decide)] at this)
        exact this
      · skip
        refine PrC_g hI (cp_peak_0 (G := G) (d := 31) (I := I) (F := F) (p := p) (n := n) (b := t) (by assumption) (by assumption) (by assumption) (by assumption) (by assumption) (by assumption) (by assumption) (by assumption) (by assumption) (I 179) (I 180) (I 181) (by assumption) (by assumption) (by assumption) (by assumption)) (fun X J F' hPx hA => ?_)
        have e : J 171 = w := (hA 171 (by decide) (by decide)).trans hw
        have e7 : J 170 7 = I 170 7 := by rw [hA 170 (by decide) (by decide)]
        have eX : mX J = (w, I 179, I 180, I 181) := by show (J 171, J 179, J 180, J 181) = _; rw [e, hA 179 (by decide) (by decide), hA 180 (by decide) (by decide), hA 181 (by decide) (by decide)]
        have hshX := hPx.1
        have hfxX := hPx.2.1
        have := mp_peak_0 (G := G) (d := 32) (sh := sh ++ X) (I := J) (F := F') (p := p) (n := n) (b := t) (by first | assumption | (rw [e]; assumption) | (rw [e7]; assumption)) (by first | assumption | (rw [e]; assumption) | (rw [e7]; assumption)) (by first | assumption | (rw [e]; assumption) | (rw [e7]; assumption)) (by first | assumption | (rw [e]; assumption) | (rw [e7]; assumption)) (by first | assumption | (rw [e]; assumption) | (rw [e7]; assumption)) (by first | assumption | (rw [e]; assumption) | (rw [e7]; assumption)) (by first | assumption | (rw [e]; assumption) | (rw [e7]; assumption)) (by first | assumption | (rw [e]; assumption) | (rw [e7]; assumption)) (by first | assumption | (rw [e]; assumption) | (rw [e7]; assumption))
        (try rw [eX] at this)
        (try rw [e] at this)
        (try rw [hA 179 (by decide) (by decide), hA 180 (by decide) (by decide), hA 181 (by decide) (by decide)] at this)
        exact this
theorem pr_needed (hI : INV b sh I F) (hb : 0 ≤ b ∧ b ≤ 800000000) {n : Int} (jn : jin n) : PrC G mX11_needed mX12_needed [xIae] [jI n] sh I F (b + 140000) := by
  obtain ⟨hP, hC, hM, h159⟩ := id hI
  obtain ⟨hsh, hfx, hmm, hst, h12, h22⟩ := id hP
  obtain ⟨w, hw⟩ : ∃ w, I 171 = w := ⟨_, rfl⟩
  have hS : Sr sh I F 2 w := by rw [← hw]; exact hC.1
  have hR := hS.1
  have hL := hS.2.2.2
  have hG := hS.2.1
  have hO : OKw b w := by rw [← hw]; exact hM.1
  have hW := hO.1
  have hWP : WfP w := hW.1
  have hWD := WF_D hW
  have hWB := WF_B hW
  have hWA := WF_A hW
  have hWR := WF_R hW
  have h9 : 0 ≤ w 9 ∧ w 9 ≤ 900000000 := ⟨hO.2.1.1, by have := hO.2.1.2; omega⟩
  have h90 := h9.1
  have h10 := hO.2.2.2.1
  have h7 := hM.2.2.2.1
  have g8 : 0 ≤ aPe w ∧ aPe w ≤ 8 := hW.1
  by_cases g1 : 0 ≤ n ∧ n ≤ 60
  rotate_left
  · refine PrC_x hI (c := 1) (r := 0) (cp_needed_1 (G := G) (d := 31) (I := I) (F := F) (n := n) (by assumption) (by assumption) (by assumption) (by assumption)) (by decide) rfl (fun X J F' hPx hA => ?_)
    have e : J 171 = w := (hA 171 (by decide) (by decide)).trans hw
    have e7 : J 170 7 = I 170 7 := by rw [hA 170 (by decide) (by decide)]
    have eX : mX J = (w, I 179, I 180, I 181) := by show (J 171, J 179, J 180, J 181) = _; rw [e, hA 179 (by decide) (by decide), hA 180 (by decide) (by decide), hA 181 (by decide) (by decide)]
    have hshX := hPx.1
    have hfxX := hPx.2.1
    have := mp_needed_1 (G := G) (d := 32) (sh := sh ++ X) (I := J) (F := F') (n := n) (by first | assumption | (rw [e]; assumption) | (rw [e7]; assumption)) (by first | assumption | (rw [e]; assumption) | (rw [e7]; assumption)) (by first | assumption | (rw [e]; assumption) | (rw [e7]; assumption)) (by first | assumption | (rw [e]; assumption) | (rw [e7]; assumption))
    (try rw [eX] at this)
    (try rw [e] at this)
    (try rw [hA 179 (by decide) (by decide), hA 180 (by decide) (by decide), hA 181 (by decide) (by decide)] at this)
    exact this
  · skip
    refine PrC_g hI (cp_needed_0 (G := G) (d := 31) (I := I) (F := F) (n := n) (by assumption) (by assumption) (by assumption) (by assumption) (by assumption) (by assumption) (by assumption) (by assumption) (by assumption) (I 179) (I 180) (I 181) (by assumption)) (fun X J F' hPx hA => ?_)
    have e : J 171 = w := (hA 171 (by decide) (by decide)).trans hw
    have e7 : J 170 7 = I 170 7 := by rw [hA 170 (by decide) (by decide)]
    have eX : mX J = (w, I 179, I 180, I 181) := by show (J 171, J 179, J 180, J 181) = _; rw [e, hA 179 (by decide) (by decide), hA 180 (by decide) (by decide), hA 181 (by decide) (by decide)]
    have hshX := hPx.1
    have hfxX := hPx.2.1
    have := mp_needed_0 (G := G) (d := 32) (sh := sh ++ X) (I := J) (F := F') (n := n) (by first | assumption | (rw [e]; assumption) | (rw [e7]; assumption)) (by first | assumption | (rw [e]; assumption) | (rw [e7]; assumption)) (by first | assumption | (rw [e]; assumption) | (rw [e7]; assumption)) (by first | assumption | (rw [e]; assumption) | (rw [e7]; assumption)) (by first | assumption | (rw [e]; assumption) | (rw [e7]; assumption)) (by first | assumption | (rw [e]; assumption) | (rw [e7]; assumption))
    (try rw [eX] at this)
    (try rw [e] at this)
    (try rw [hA 179 (by decide) (by decide), hA 180 (by decide) (by decide), hA 181 (by decide) (by decide)] at this)
    exact this
theorem pr_parted (hI : INV b sh I F) (hb : 0 ≤ b ∧ b ≤ 800000000) {t : Int} (zt : t = 0 ∨ t = 1) : PrC G mX11_parted mX12_parted [] [jI t] sh I F (b + 140000) := by
  obtain ⟨hP, hC, hM, h159⟩ := id hI
  obtain ⟨hsh, hfx, hmm, hst, h12, h22⟩ := id hP
  obtain ⟨w, hw⟩ : ∃ w, I 171 = w := ⟨_, rfl⟩
  have hS : Sr sh I F 2 w := by rw [← hw]; exact hC.1
  have hR := hS.1
  have hL := hS.2.2.2
  have hG := hS.2.1
  have hO : OKw b w := by rw [← hw]; exact hM.1
  have hW := hO.1
  have hWP : WfP w := hW.1
  have hWD := WF_D hW
  have hWB := WF_B hW
  have hWA := WF_A hW
  have hWR := WF_R hW
  have h9 : 0 ≤ w 9 ∧ w 9 ≤ 900000000 := ⟨hO.2.1.1, by have := hO.2.1.2; omega⟩
  have h90 := h9.1
  have h10 := hO.2.2.2.1
  have h7 := hM.2.2.2.1
  have g8 : 0 ≤ aPe w ∧ aPe w ≤ 8 := hW.1
  refine PrC_q hI (cp_parted (G := G) (d := 37) (I := I) (F := F) (b := t) (by assumption) (by assumption) (by assumption) (by assumption) (by assumption) (by assumption)) (fun X J F' hPx hA => ?_)
  have e : J 171 = w := (hA 171 (by decide) (by decide)).trans hw
  have e7 : J 170 7 = I 170 7 := by rw [hA 170 (by decide) (by decide)]
  have eX : mX J = (w, I 179, I 180, I 181) := by show (J 171, J 179, J 180, J 181) = _; rw [e, hA 179 (by decide) (by decide), hA 180 (by decide) (by decide), hA 181 (by decide) (by decide)]
  have hshX := hPx.1
  have hfxX := hPx.2.1
  have := mp_parted (G := G) (d := 36) (sh := sh ++ X) (I := J) (F := F') (b := t) (by first | assumption | (rw [e]; assumption) | (rw [e7]; assumption)) (by first | assumption | (rw [e]; assumption) | (rw [e7]; assumption)) (by first | assumption | (rw [e]; assumption) | (rw [e7]; assumption)) (by first | assumption | (rw [e]; assumption) | (rw [e7]; assumption)) (by first | assumption | (rw [e]; assumption) | (rw [e7]; assumption))
  (try rw [eX] at this)
  (try rw [e] at this)
  (try rw [hA 179 (by decide) (by decide), hA 180 (by decide) (by decide), hA 181 (by decide) (by decide)] at this)
  exact this
theorem pr_rank (hI : INV b sh I F) (hb : 0 ≤ b ∧ b ≤ 800000000) {p : Int} (jp : jin p) : PrC G mX11_rank mX12_rank [xIob, xIse] [jI p] sh I F (b + 140000) := by
  obtain ⟨hP, hC, hM, h159⟩ := id hI
  obtain ⟨hsh, hfx, hmm, hst, h12, h22⟩ := id hP
  obtain ⟨w, hw⟩ : ∃ w, I 171 = w := ⟨_, rfl⟩
  have hS : Sr sh I F 2 w := by rw [← hw]; exact hC.1
  have hR := hS.1
  have hL := hS.2.2.2
  have hG := hS.2.1
  have hO : OKw b w := by rw [← hw]; exact hM.1
  have hW := hO.1
  have hWP : WfP w := hW.1
  have hWD := WF_D hW
  have hWB := WF_B hW
  have hWA := WF_A hW
  have hWR := WF_R hW
  have h9 : 0 ≤ w 9 ∧ w 9 ≤ 900000000 := ⟨hO.2.1.1, by have := hO.2.1.2; omega⟩
  have h90 := h9.1
  have h10 := hO.2.2.2.1
  have h7 := hM.2.2.2.1
  have g8 : 0 ≤ aPe w ∧ aPe w ≤ 8 := hW.1
  by_cases g1 : gP w p
  rotate_left
  · refine PrC_x hI (c := 1) (r := 0) (cp_rank_1 (G := G) (d := 31) (I := I) (F := F) (p := p) (by assumption) (by assumption) (by assumption) (by assumption) (by assumption)) (by decide) rfl (fun X J F' hPx hA => ?_)
    have e : J 171 = w := (hA 171 (by decide) (by decide)).trans hw
    have e7 : J 170 7 = I 170 7 := by rw [hA 170 (by decide) (by decide)]
    have eX : mX J = (w, I 179, I 180, I 181) := by show (J 171, J 179, J 180, J 181) = _; rw [e, hA 179 (by decide) (by decide), hA 180 (by decide) (by decide), hA 181 (by decide) (by decide)]
    have hshX := hPx.1
    have hfxX := hPx.2.1
    have := mp_rank_1 (G := G) (d := 32) (sh := sh ++ X) (I := J) (F := F') (p := p) (by first | assumption | (rw [e]; assumption) | (rw [e7]; assumption)) (by first | assumption | (rw [e]; assumption) | (rw [e7]; assumption)) (by first | assumption | (rw [e]; assumption) | (rw [e7]; assumption)) (by first | assumption | (rw [e]; assumption) | (rw [e7]; assumption)) (by first | assumption | (rw [e]; assumption) | (rw [e7]; assumption))
    (try rw [eX] at this)
    (try rw [e] at this)
    (try rw [hA 179 (by decide) (by decide), hA 180 (by decide) (by decide), hA 181 (by decide) (by decide)] at this)
    exact this
  · skip
    have gp : 0 ≤ p ∧ p < aPe w := by have := g1.1; have := g1.2; omega
    by_cases g2 : aOf w p 3 = 0
    rotate_left
    · refine PrC_x hI (c := 2) (r := 0) (cp_rank_2 (G := G) (d := 31) (I := I) (F := F) (p := p) (by assumption) (by assumption) (by assumption) (by assumption) (by assumption) (by assumption)) (by decide) rfl (fun X J F' hPx hA => ?_)
      have e : J 171 = w := (hA 171 (by decide) (by decide)).trans hw
      have e7 : J 170 7 = I 170 7 := by rw [hA 170 (by decide) (by decide)]
      have eX : mX J = (w, I 179, I 180, I 181) := by show (J 171, J 179, J 180, J 181) = _; rw [e, hA 179 (by decide) (by decide), hA 180 (by decide) (by decide), hA 181 (by decide) (by decide)]
      have hshX := hPx.1
      have hfxX := hPx.2.1
      have := mp_rank_2 (G := G) (d := 32) (sh := sh ++ X) (I := J) (F := F') (p := p) (by first | assumption | (rw [e]; assumption) | (rw [e7]; assumption)) (by first | assumption | (rw [e]; assumption) | (rw [e7]; assumption)) (by first | assumption | (rw [e]; assumption) | (rw [e7]; assumption)) (by first | assumption | (rw [e]; assumption) | (rw [e7]; assumption)) (by first | assumption | (rw [e]; assumption) | (rw [e7]; assumption))
      (try rw [eX] at this)
      (try rw [e] at this)
      (try rw [hA 179 (by decide) (by decide), hA 180 (by decide) (by decide), hA 181 (by decide) (by decide)] at this)
      exact this
    · skip
      refine PrC_g hI (cp_rank_0 (G := G) (d := 31) (I := I) (F := F) (p := p) (by assumption) (by assumption) (by assumption) (by assumption) (by assumption) (by assumption) (by assumption) (by assumption) (by assumption) (I 179) (I 180) (I 181) (by assumption) (by assumption)) (fun X J F' hPx hA => ?_)
      have e : J 171 = w := (hA 171 (by decide) (by decide)).trans hw
      have e7 : J 170 7 = I 170 7 := by rw [hA 170 (by decide) (by decide)]
      have eX : mX J = (w, I 179, I 180, I 181) := by show (J 171, J 179, J 180, J 181) = _; rw [e, hA 179 (by decide) (by decide), hA 180 (by decide) (by decide), hA 181 (by decide) (by decide)]
      have hshX := hPx.1
      have hfxX := hPx.2.1
      have := mp_rank_0 (G := G) (d := 32) (sh := sh ++ X) (I := J) (F := F') (p := p) (by first | assumption | (rw [e]; assumption) | (rw [e7]; assumption)) (by first | assumption | (rw [e]; assumption) | (rw [e7]; assumption)) (by first | assumption | (rw [e]; assumption) | (rw [e7]; assumption)) (by first | assumption | (rw [e]; assumption) | (rw [e7]; assumption)) (by first | assumption | (rw [e]; assumption) | (rw [e7]; assumption)) (by first | assumption | (rw [e]; assumption) | (rw [e7]; assumption)) (by first | assumption | (rw [e]; assumption) | (rw [e7]; assumption))
      (try rw [eX] at this)
      (try rw [e] at this)
      (try rw [hA 179 (by decide) (by decide), hA 180 (by decide) (by decide), hA 181 (by decide) (by decide)] at this)
      exact this
theorem pr_strike (hI : INV b sh I F) (hb : 0 ≤ b ∧ b ≤ 800000000) : PrC G mX11_strike mX12_strike [] [] sh I F (b + 140000) := by
  obtain ⟨hP, hC, hM, h159⟩ := id hI
  obtain ⟨hsh, hfx, hmm, hst, h12, h22⟩ := id hP
  obtain ⟨w, hw⟩ : ∃ w, I 171 = w := ⟨_, rfl⟩
  have hS : Sr sh I F 2 w := by rw [← hw]; exact hC.1
  have hR := hS.1
  have hL := hS.2.2.2
  have hG := hS.2.1
  have hO : OKw b w := by rw [← hw]; exact hM.1
  have hW := hO.1
  have hWP : WfP w := hW.1
  have hWD := WF_D hW
  have hWB := WF_B hW
  have hWA := WF_A hW
  have hWR := WF_R hW
  have h9 : 0 ≤ w 9 ∧ w 9 ≤ 900000000 := ⟨hO.2.1.1, by have := hO.2.1.2; omega⟩
  have h90 := h9.1
  have h10 := hO.2.2.2.1
  have h7 := hM.2.2.2.1
  have g8 : 0 ≤ aPe w ∧ aPe w ≤ 8 := hW.1
  refine PrC_q hI (cp_strike (G := G) (d := 34) (I := I) (F := F) (by assumption) (by assumption) (by assumption) (by assumption) (by assumption)) (fun X J F' hPx hA => ?_)
  have e : J 171 = w := (hA 171 (by decide) (by decide)).trans hw
  have e7 : J 170 7 = I 170 7 := by rw [hA 170 (by decide) (by decide)]
  have eX : mX J = (w, I 179, I 180, I 181) := by show (J 171, J 179, J 180, J 181) = _; rw [e, hA 179 (by decide) (by decide), hA 180 (by decide) (by decide), hA 181 (by decide) (by decide)]
  have hshX := hPx.1
  have hfxX := hPx.2.1
  have := mp_strike (G := G) (d := 37) (sh := sh ++ X) (I := J) (F := F') (by first | assumption | (rw [e]; assumption) | (rw [e7]; assumption)) (by first | assumption | (rw [e]; assumption) | (rw [e7]; assumption)) (by first | assumption | (rw [e]; assumption) | (rw [e7]; assumption))
  (try rw [eX] at this)
  (try rw [e] at this)
  (try rw [hA 179 (by decide) (by decide), hA 180 (by decide) (by decide), hA 181 (by decide) (by decide)] at this)
  exact this
theorem pr_trial (hI : INV b sh I F) (hb : 0 ≤ b ∧ b ≤ 800000000) {n t : Int} (jn : jin n) (zt : t = 0 ∨ t = 1) : PrC G mX11_trial mX12_trial [xIae] [jI n, jI t] sh I F (b + 140000) := by
  obtain ⟨hP, hC, hM, h159⟩ := id hI
  obtain ⟨hsh, hfx, hmm, hst, h12, h22⟩ := id hP
  obtain ⟨w, hw⟩ : ∃ w, I 171 = w := ⟨_, rfl⟩
  have hS : Sr sh I F 2 w := by rw [← hw]; exact hC.1
  have hR := hS.1
  have hL := hS.2.2.2
  have hG := hS.2.1
  have hO : OKw b w := by rw [← hw]; exact hM.1
  have hW := hO.1
  have hWP : WfP w := hW.1
  have hWD := WF_D hW
  have hWB := WF_B hW
  have hWA := WF_A hW
  have hWR := WF_R hW
  have h9 : 0 ≤ w 9 ∧ w 9 ≤ 900000000 := ⟨hO.2.1.1, by have := hO.2.1.2; omega⟩
  have h90 := h9.1
  have h10 := hO.2.2.2.1
  have h7 := hM.2.2.2.1
  have g8 : 0 ≤ aPe w ∧ aPe w ≤ 8 := hW.1
  by_cases g1 : 0 ≤ n ∧ n ≤ 40
  rotate_left
  · refine PrC_x hI (c := 1) (r := 0) (cp_trial_1 (G := G) (d := 31) (I := I) (F := F) (n := n) (b := t) (by assumption) (by assumption) (by assumption) (by assumption)) (by decide) rfl (fun X J F' hPx hA => ?_)
    have e : J 171 = w := (hA 171 (by decide) (by decide)).trans hw
    have e7 : J 170 7 = I 170 7 := by rw [hA 170 (by decide) (by decide)]
    have eX : mX J = (w, I 179, I 180, I 181) := by show (J 171, J 179, J 180, J 181) = _; rw [e, hA 179 (by decide) (by decide), hA 180 (by decide) (by decide), hA 181 (by decide) (by decide)]
    have hshX := hPx.1
    have hfxX := hPx.2.1
    have := mp_trial_1 (G := G) (d := 32) (sh := sh ++ X) (I := J) (F := F') (n := n) (b := t) (by first | assumption | (rw [e]; assumption) | (rw [e7]; assumption)) (by first | assumption | (rw [e]; assumption) | (rw [e7]; assumption)) (by first | assumption | (rw [e]; assumption) | (rw [e7]; assumption)) (by first | assumption | (rw [e]; assumption) | (rw [e7]; assumption))
    (try rw [eX] at this)
    (try rw [e] at this)
    (try rw [hA 179 (by decide) (by decide), hA 180 (by decide) (by decide), hA 181 (by decide) (by decide)] at this)
    exact this
  · skip
    refine PrC_g hI (cp_trial_0 (G := G) (d := 31) (I := I) (F := F) (n := n) (b := t) (by assumption) (by assumption) (by assumption) (by assumption) (by assumption) (by assumption) (by assumption) (by assumption) (by assumption) (I 179) (I 180) (I 181) (by assumption) (by assumption)) (fun X J F' hPx hA => ?_)
    have e : J 171 = w := (hA 171 (by decide) (by decide)).trans hw
    have e7 : J 170 7 = I 170 7 := by rw [hA 170 (by decide) (by decide)]
    have eX : mX J = (w, I 179, I 180, I 181) := by show (J 171, J 179, J 180, J 181) = _; rw [e, hA 179 (by decide) (by decide), hA 180 (by decide) (by decide), hA 181 (by decide) (by decide)]
    have hshX := hPx.1
    have hfxX := hPx.2.1
    have := mp_trial_0 (G := G) (d := 32) (sh := sh ++ X) (I := J) (F := F') (n := n) (b := t) (by first | assumption | (rw [e]; assumption) | (rw [e7]; assumption)) (by first | assumption | (rw [e]; assumption) | (rw [e7]; assumption)) (by first | assumption | (rw [e]; assumption) | (rw [e7]; assumption)) (by first | assumption | (rw [e]; assumption) | (rw [e7]; assumption)) (by first | assumption | (rw [e]; assumption) | (rw [e7]; assumption)) (by first | assumption | (rw [e]; assumption) | (rw [e7]; assumption)) (by first | assumption | (rw [e]; assumption) | (rw [e7]; assumption))
    (try rw [eX] at this)
    (try rw [e] at this)
    (try rw [hA 179 (by decide) (by decide), hA 180 (by decide) (by decide), hA 181 (by decide) (by decide)] at this)
    exact this
theorem pr_span (hI : INV b sh I F) (hb : 0 ≤ b ∧ b ≤ 800000000) {n t : Int} (jn : jin n) (zt : t = 0 ∨ t = 1) : PrC G mX11_span mX12_span [xIae] [jI n, jI t] sh I F (b + 140000) := by
  obtain ⟨hP, hC, hM, h159⟩ := id hI
  obtain ⟨hsh, hfx, hmm, hst, h12, h22⟩ := id hP
  obtain ⟨w, hw⟩ : ∃ w, I 171 = w := ⟨_, rfl⟩
  have hS : Sr sh I F 2 w := by rw [← hw]; exact hC.1
  have hR := hS.1
  have hL := hS.2.2.2
  have hG := hS.2.1
  have hO : OKw b w := by rw [← hw]; exact hM.1
  have hW := hO.1
  have hWP : WfP w := hW.1
  have hWD := WF_D hW
  have hWB := WF_B hW
  have hWA := WF_A hW
  have hWR := WF_R hW
  have h9 : 0 ≤ w 9 ∧ w 9 ≤ 900000000 := ⟨hO.2.1.1, by have := hO.2.1.2; omega⟩
  have h90 := h9.1
  have h10 := hO.2.2.2.1
  have h7 := hM.2.2.2.1
  have g8 : 0 ≤ aPe w ∧ aPe w ≤ 8 := hW.1
  by_cases g1 : 0 ≤ n ∧ n ≤ 40
  rotate_left
  · refine PrC_x hI (c := 1) (r := 0) (cp_span_1 (G := G) (d := 31) (I := I) (F := F) (n := n) (b := t) (by assumption) (by assumption) (by assumption) (by assumption)) (by decide) rfl (fun X J F' hPx hA => ?_)
    have e : J 171 = w := (hA 171 (by decide) (by decide)).trans hw
    have e7 : J 170 7 = I 170 7 := by rw [hA 170 (by decide) (by decide)]
    have eX : mX J = (w, I 179, I 180, I 181) := by show (J 171, J 179, J 180, J 181) = _; rw [e, hA 179 (by decide) (by decide), hA 180 (by decide) (by decide), hA 181 (by decide) (by decide)]
    have hshX := hPx.1
    have hfxX := hPx.2.1
    have := mp_span_1 (G := G) (d := 32) (sh := sh ++ X) (I := J) (F := F') (n := n) (b := t) (by first | assumption | (rw [e]; assumption) | (rw [e7]; assumption)) (by first | assumption | (rw [e]; assumption) | (rw [e7]; assumption)) (by first | assumption | (rw [e]; assumption) | (rw [e7]; assumption)) (by first | assumption | (rw [e]; assumption) | (rw [e7]; assumption))
    (try rw [eX] at this)
    (try rw [e] at this)
    (try rw [hA 179 (by decide) (by decide), hA 180 (by decide) (by decide), hA 181 (by decide) (by decide)] at this)
    exact this
  · skip
    refine PrC_g hI (cp_span_0 (G := G) (d := 31) (I := I) (F := F) (n := n) (b := t) (by assumption) (by assumption) (by assumption) (by assumption) (by assumption) (by assumption) (by assumption) (by assumption) (by assumption) (I 179) (I 180) (I 181) (by assumption) (by assumption)) (fun X J F' hPx hA => ?_)
    have e : J 171 = w := (hA 171 (by decide) (by decide)).trans hw
    have e7 : J 170 7 = I 170 7 := by rw [hA 170 (by decide) (by decide)]
    have eX : mX J = (w, I 179, I 180, I 181) := by show (J 171, J 179, J 180, J 181) = _; rw [e, hA 179 (by decide) (by decide), hA 180 (by decide) (by decide), hA 181 (by decide) (by decide)]
    have hshX := hPx.1
    have hfxX := hPx.2.1
    have := mp_span_0 (G := G) (d := 32) (sh := sh ++ X) (I := J) (F := F') (n := n) (b := t) (by first | assumption | (rw [e]; assumption) | (rw [e7]; assumption)) (by first | assumption | (rw [e]; assumption) | (rw [e7]; assumption)) (by first | assumption | (rw [e]; assumption) | (rw [e7]; assumption)) (by first | assumption | (rw [e]; assumption) | (rw [e7]; assumption)) (by first | assumption | (rw [e]; assumption) | (rw [e7]; assumption)) (by first | assumption | (rw [e]; assumption) | (rw [e7]; assumption)) (by first | assumption | (rw [e]; assumption) | (rw [e7]; assumption))
    (try rw [eX] at this)
    (try rw [e] at this)
    (try rw [hA 179 (by decide) (by decide), hA 180 (by decide) (by decide), hA 181 (by decide) (by decide)] at this)
    exact this
theorem pr_led (hI : INV b sh I F) (hb : 0 ≤ b ∧ b ≤ 800000000) {p t : Int} (jp : jin p) (zt : t = 0 ∨ t = 1) : PrC G mX11_led mX12_led [xIob] [jI p, jI t] sh I F (b + 140000) := by
  obtain ⟨hP, hC, hM, h159⟩ := id hI
  obtain ⟨hsh, hfx, hmm, hst, h12, h22⟩ := id hP
  obtain ⟨w, hw⟩ : ∃ w, I 171 = w := ⟨_, rfl⟩
  have hS : Sr sh I F 2 w := by rw [← hw]; exact hC.1
  have hR := hS.1
  have hL := hS.2.2.2
  have hG := hS.2.1
  have hO : OKw b w := by rw [← hw]; exact hM.1
  have hW := hO.1
  have hWP : WfP w := hW.1
  have hWD := WF_D hW
  have hWB := WF_B hW
  have hWA := WF_A hW
  have hWR := WF_R hW
  have h9 : 0 ≤ w 9 ∧ w 9 ≤ 900000000 := ⟨hO.2.1.1, by have := hO.2.1.2; omega⟩
  have h90 := h9.1
  have h10 := hO.2.2.2.1
  have h7 := hM.2.2.2.1
  have g8 : 0 ≤ aPe w ∧ aPe w ≤ 8 := hW.1
  by_cases g1 : gP w p
  rotate_left
  · refine PrC_x hI (c := 1) (r := 0) (cp_led_1 (G := G) (d := 34) (I := I) (F := F) (p := p) (b := t) (by assumption) (by assumption) (by assumption) (by assumption) (by assumption)) (by decide) rfl (fun X J F' hPx hA => ?_)
    have e : J 171 = w := (hA 171 (by decide) (by decide)).trans hw
    have e7 : J 170 7 = I 170 7 := by rw [hA 170 (by decide) (by decide)]
    have eX : mX J = (w, I 179, I 180, I 181) := by show (J 171, J 179, J 180, J 181) = _; rw [e, hA 179 (by decide) (by decide), hA 180 (by decide) (by decide), hA 181 (by decide) (by decide)]
    have hshX := hPx.1
    have hfxX := hPx.2.1
    have := mp_led_1 (G := G) (d := 34) (sh := sh ++ X) (I := J) (F := F') (p := p) (b := t) (by first | assumption | (rw [e]; assumption) | (rw [e7]; assumption)) (by first | assumption | (rw [e]; assumption) | (rw [e7]; assumption)) (by first | assumption | (rw [e]; assumption) | (rw [e7]; assumption)) (by first | assumption | (rw [e]; assumption) | (rw [e7]; assumption)) (by first | assumption | (rw [e]; assumption) | (rw [e7]; assumption))
    (try rw [eX] at this)
    (try rw [e] at this)
    (try rw [hA 179 (by decide) (by decide), hA 180 (by decide) (by decide), hA 181 (by decide) (by decide)] at this)
    exact this
  · skip
    have gp : 0 ≤ p ∧ p < aPe w := by have := g1.1; have := g1.2; omega
    refine PrC_q hI (cp_led_0 (G := G) (d := 34) (I := I) (F := F) (p := p) (b := t) (by assumption) (by assumption) (by assumption) (by assumption) (by assumption) (by assumption) (by assumption) (by assumption)) (fun X J F' hPx hA => ?_)
    have e : J 171 = w := (hA 171 (by decide) (by decide)).trans hw
    have e7 : J 170 7 = I 170 7 := by rw [hA 170 (by decide) (by decide)]
    have eX : mX J = (w, I 179, I 180, I 181) := by show (J 171, J 179, J 180, J 181) = _; rw [e, hA 179 (by decide) (by decide), hA 180 (by decide) (by decide), hA 181 (by decide) (by decide)]
    have hshX := hPx.1
    have hfxX := hPx.2.1
    have := mp_led_0 (G := G) (d := 34) (sh := sh ++ X) (I := J) (F := F') (p := p) (b := t) (by first | assumption | (rw [e]; assumption) | (rw [e7]; assumption)) (by first | assumption | (rw [e]; assumption) | (rw [e7]; assumption)) (by first | assumption | (rw [e]; assumption) | (rw [e7]; assumption)) (by first | assumption | (rw [e]; assumption) | (rw [e7]; assumption)) (by first | assumption | (rw [e]; assumption) | (rw [e7]; assumption)) (by first | assumption | (rw [e]; assumption) | (rw [e7]; assumption)) (by first | assumption | (rw [e]; assumption) | (rw [e7]; assumption))
    (try rw [eX] at this)
    (try rw [e] at this)
    (try rw [hA 179 (by decide) (by decide), hA 180 (by decide) (by decide), hA 181 (by decide) (by decide)] at this)
    exact this
theorem pr_log (hI : INV b sh I F) (hb : 0 ≤ b ∧ b ≤ 800000000) {a c : Int} (ja : jin a) (jc : jin c) : PrC G mX11_log mX12_log [xNse] [jI a, jI c] sh I F (b + 140000) := by
  obtain ⟨hP, hC, hM, h159⟩ := id hI
  obtain ⟨hsh, hfx, hmm, hst, h12, h22⟩ := id hP
  obtain ⟨w, hw⟩ : ∃ w, I 171 = w := ⟨_, rfl⟩
  have hS : Sr sh I F 2 w := by rw [← hw]; exact hC.1
  have hR := hS.1
  have hL := hS.2.2.2
  have hG := hS.2.1
  have hO : OKw b w := by rw [← hw]; exact hM.1
  have hW := hO.1
  have hWP : WfP w := hW.1
  have hWD := WF_D hW
  have hWB := WF_B hW
  have hWA := WF_A hW
  have hWR := WF_R hW
  have h9 : 0 ≤ w 9 ∧ w 9 ≤ 900000000 := ⟨hO.2.1.1, by have := hO.2.1.2; omega⟩
  have h90 := h9.1
  have h10 := hO.2.2.2.1
  have h7 := hM.2.2.2.1
  have g8 : 0 ≤ aPe w ∧ aPe w ≤ 8 := hW.1
  by_cases g1 : 0 ≤ c ∧ c ≤ 3
  rotate_left
  · refine PrC_x hI (c := 1) (r := 0) (cp_log_1 (G := G) (d := 34) (I := I) (F := F) (a := a) (c := c) (by assumption) (by assumption) (by assumption) (by assumption)) (by decide) rfl (fun X J F' hPx hA => ?_)
    have e : J 171 = w := (hA 171 (by decide) (by decide)).trans hw
    have e7 : J 170 7 = I 170 7 := by rw [hA 170 (by decide) (by decide)]
    have eX : mX J = (w, I 179, I 180, I 181) := by show (J 171, J 179, J 180, J 181) = _; rw [e, hA 179 (by decide) (by decide), hA 180 (by decide) (by decide), hA 181 (by decide) (by decide)]
    have hshX := hPx.1
    have hfxX := hPx.2.1
    have := mp_log_1 (G := G) (d := 34) (sh := sh ++ X) (I := J) (F := F') (a := a) (c := c) (by first | assumption | (rw [e]; assumption) | (rw [e7]; assumption)) (by first | assumption | (rw [e]; assumption) | (rw [e7]; assumption)) (by first | assumption | (rw [e]; assumption) | (rw [e7]; assumption)) (by first | assumption | (rw [e]; assumption) | (rw [e7]; assumption))
    (try rw [eX] at this)
    (try rw [e] at this)
    (try rw [hA 179 (by decide) (by decide), hA 180 (by decide) (by decide), hA 181 (by decide) (by decide)] at this)
    exact this
  · skip
    refine PrC_q hI (cp_log_0 (G := G) (d := 34) (I := I) (F := F) (a := a) (c := c) (by assumption) (by assumption) (by assumption) (by assumption) (by assumption) (by assumption)) (fun X J F' hPx hA => ?_)
    have e : J 171 = w := (hA 171 (by decide) (by decide)).trans hw
    have e7 : J 170 7 = I 170 7 := by rw [hA 170 (by decide) (by decide)]
    have eX : mX J = (w, I 179, I 180, I 181) := by show (J 171, J 179, J 180, J 181) = _; rw [e, hA 179 (by decide) (by decide), hA 180 (by decide) (by decide), hA 181 (by decide) (by decide)]
    have hshX := hPx.1
    have hfxX := hPx.2.1
    have := mp_log_0 (G := G) (d := 34) (sh := sh ++ X) (I := J) (F := F') (a := a) (c := c) (by first | assumption | (rw [e]; assumption) | (rw [e7]; assumption)) (by first | assumption | (rw [e]; assumption) | (rw [e7]; assumption)) (by first | assumption | (rw [e]; assumption) | (rw [e7]; assumption)) (by first | assumption | (rw [e]; assumption) | (rw [e7]; assumption)) (by first | assumption | (rw [e]; assumption) | (rw [e7]; assumption))
    (try rw [eX] at this)
    (try rw [e] at this)
    (try rw [hA 179 (by decide) (by decide), hA 180 (by decide) (by decide), hA 181 (by decide) (by decide)] at this)
    exact this
end
