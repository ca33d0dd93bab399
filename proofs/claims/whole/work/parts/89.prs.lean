/-! BOTH ARE CALLED -/
section
variable {G : jzG} {sh : List (Nat × Nat)} {I : Nat → Int → Int} {F : Nat → Int → Option Nat} {b : Int}
theorem pr_person (hI : INV b sh I F) (hb : 0 ≤ b ∧ b ≤ 800000000) {p k : Int} (jp : jin p) (jk : jin k) : PrC G mX11_person mX12_person [xIob, xNse] [jI p, jI k] sh I F (b + 140000) := by
  obtain ⟨hP, hC, hM, h159⟩ := id hI
  obtain ⟨hsh, hfx, hmm, hst, h12, h22⟩ := id hP
  obtain ⟨w, hw⟩ : ∃ w, I 171 = w := ⟨_, rfl⟩
  have hS : Sr sh I F 2 w := by rw [← hw]; exact hC.1
  have hR := hS.1
  have hL := hS.2.2.2
  have hG := hS.2.1
  have hO : OKw b w := by rw [← hw]; exact hM.1
  have hW := hO.1
  have hWP : WfP w := hW.1
  have hWD := WF_D hW
  have hWB := WF_B hW
  have hWA := WF_A hW
  have hWR := WF_R hW
  have h9 : 0 ≤ w 9 ∧ w 9 ≤ 900000000 := ⟨hO.2.1.1, by have := hO.2.1.2; omega⟩
  have h90 := h9.1
  have h10 := hO.2.2.2.1
  have h7 := hM.2.2.2.1
  have g8 : 0 ≤ aPe w ∧ aPe w ≤ 8 := hW.1
  by_cases g1 : gP w p
  rotate_left
  · refine PrC_x hI (c := 1) (r := 0) (cp_person_1 (G := G) (d := 34) (I := I) (F := F) (p := p) (k := k) (by assumption) (by assumption) (by assumption) (by assumption) (by assumption) (by assumption) (by assumption)) (by decide) rfl (fun X J F' hPx hA => ?_)
    have e : J 171 = w := (hA 171 (by decide) (by decide)).trans hw
    have e7 : J 170 7 = I 170 7 := by rw [hA 170 (by decide) (by decide)]
    have eX : mX J = (w, I 179, I 180, I 181) := by show (J 171, J 179, J 180, J 181) = _; rw [e, hA 179 (by decide) (by decide), hA 180 (by decide) (by decide), hA 181 (by decide) (by decide)]
    have hshX := hPx.1
    have hfxX := hPx.2.1
    have := mp_person_1 (G := G) (d := 34) (sh := sh ++ X) (I := J) (F := F') (p := p) (k := k) (by first | assumption | (rw [e]; assumption) | (rw [e7]; assumption)) (by first | assumption | (rw [e]; assumption) | (rw [e7]; assumption)) (by first | assumption | (rw [e]; assumption) | (rw [e7]; assumption)) (by first | assumption | (rw [e]; assumption) | (rw [e7]; assumption)) (by first | assumption | (rw [e]; assumption) | (rw [e7]; assumption))
    (try rw [eX] at this)
    (try rw [e] at this)
    (try rw [hA 179 (by decide) (by decide), hA 180 (by decide) (by decide), hA 181 (by decide) (by decide)] at this)
    exact this
  · skip
    have gp : 0 ≤ p ∧ p < aPe w := by have := g1.1; have := g1.2; omega
    by_cases g2 : 0 ≤ k ∧ k ≤ 9
    rotate_left
    · refine PrC_x hI (c := 2) (r := 0) (cp_person_2 (G := G) (d := 34) (I := I) (F := F) (p := p) (k := k) (by assumption) (by assumption) (by assumption) (by assumption) (by assumption) (by assumption) (by assumption) (by assumption)) (by decide) rfl (fun X J F' hPx hA => ?_)
      have e : J 171 = w := (hA 171 (by decide) (by decide)).trans hw
      have e7 : J 170 7 = I 170 7 := by rw [hA 170 (by decide) (by decide)]
      have eX : mX J = (w, I 179, I 180, I 181) := by show (J 171, J 179, J 180, J 181) = _; rw [e, hA 179 (by decide) (by decide), hA 180 (by decide) (by decide), hA 181 (by decide) (by decide)]
      have hshX := hPx.1
      have hfxX := hPx.2.1
      have := mp_person_2 (G := G) (d := 34) (sh := sh ++ X) (I := J) (F := F') (p := p) (k := k) (by first | assumption | (rw [e]; assumption) | (rw [e7]; assumption)) (by first | assumption | (rw [e]; assumption) | (rw [e7]; assumption)) (by first | assumption | (rw [e]; assumption) | (rw [e7]; assumption)) (by first | assumption | (rw [e]; assumption) | (rw [e7]; assumption)) (by first | assumption | (rw [e]; assumption) | (rw [e7]; assumption)) (by first | assumption | (rw [e]; assumption) | (rw [e7]; assumption))
      (try rw [eX] at this)
      (try rw [e] at this)
      (try rw [hA 179 (by decide) (by decide), hA 180 (by decide) (by decide), hA 181 (by decide) (by decide)] at this)
      exact this
    · skip
      refine PrC_q hI (cp_person_0 (G := G) (d := 34) (I := I) (F := F) (p := p) (k := k) (by assumption) (by assumption) (by assumption) (by assumption) (by assumption) (by assumption) (by assumption)) (fun X J F' hPx hA => ?_)
      have e : J 171 = w := (hA 171 (by decide) (by decide)).trans hw
      have e7 : J 170 7 = I 170 7 := by rw [hA 170 (by decide) (by decide)]
      have eX : mX J = (w, I 179, I 180, I 181) := by show (J 171, J 179, J 180, J 181) = _; rw [e, hA 179 (by decide) (by decide), hA 180 (by decide) (by decide), hA 181 (by decide) (by decide)]
      have hshX := hPx.1
      have hfxX := hPx.2.1
      have := mp_person_0 (G := G) (d := 34) (sh := sh ++ X) (I := J) (F := F') (p := p) (k := k) (by first | assumption | (rw [e]; assumption) | (rw [e7]; assumption)) (by first | assumption | (rw [e]; assumption) | (rw [e7]; assumption)) (by first | assumption | (rw [e]; assumption) | (rw [e7]; assumption)) (by first | assumption | (rw [e]; assumption) | (rw [e7]; assumption)) (by first | assumption | (rw [e]; assumption) | (rw [e7]; assumption))
      (try rw [eX] at this)
      (try rw [e] at this)
      (try rw [hA 179 (by decide) (by decide), hA 180 (by decide) (by decide), hA 181 (by decide) (by decide)] at this)
      exact this
theorem pr_pain (hI : INV b sh I F) (hb : 0 ≤ b ∧ b ≤ 800000000) {p k : Int} (jp : jin p) (jk : jin k) : PrC G mX11_pain mX12_pain [xIob] [jI p, jI k] sh I F (b + 140000) := by
  obtain ⟨hP, hC, hM, h159⟩ := id hI
  obtain ⟨hsh, hfx, hmm, hst, h12, h22⟩ := id hP
  obtain ⟨w, hw⟩ : ∃ w, I 171 = w := ⟨_, rfl⟩
  have hS : Sr sh I F 2 w := by rw [← hw]; exact hC.1
  have hR := hS.1
  have hL := hS.2.2.2
  have hG := hS.2.1
  have hO : OKw b w := by rw [← hw]; exact hM.1
  have hW := hO.1
  have hWP : WfP w := hW.1
  have hWD := WF_D hW
  have hWB := WF_B hW
  have hWA := WF_A hW
  have hWR := WF_R hW
  have h9 : 0 ≤ w 9 ∧ w 9 ≤ 900000000 := ⟨hO.2.1.1, by have := hO.2.1.2; omega⟩
  have h90 := h9.1
  have h10 := hO.2.2.2.1
  have h7 := hM.2.2.2.1
  have g8 : 0 ≤ aPe w ∧ aPe w ≤ 8 := hW.1
  by_cases g1 : gP w p ∧ 0 ≤ k ∧ k ≤ 6
  rotate_left
  · refine PrC_x hI (c := 1) (r := 0) (cp_pain_1 (G := G) (d := 34) (I := I) (F := F) (p := p) (k := k) (by assumption) (by assumption) (by assumption) (by assumption) (by assumption) (by assumption) (by assumption) (by assumption)) (by decide) rfl (fun X J F' hPx hA => ?_)
    have e : J 171 = w := (hA 171 (by decide) (by decide)).trans hw
    have e7 : J 170 7 = I 170 7 := by rw [hA 170 (by decide) (by decide)]
    have eX : mX J = (w, I 179, I 180, I 181) := by show (J 171, J 179, J 180, J 181) = _; rw [e, hA 179 (by decide) (by decide), hA 180 (by decide) (by decide), hA 181 (by decide) (by decide)]
    have hshX := hPx.1
    have hfxX := hPx.2.1
    have := mp_pain_1 (G := G) (d := 34) (sh := sh ++ X) (I := J) (F := F') (p := p) (k := k) (by first | assumption | (rw [e]; assumption) | (rw [e7]; assumption)) (by first | assumption | (rw [e]; assumption) | (rw [e7]; assumption)) (by first | assumption | (rw [e]; assumption) | (rw [e7]; assumption)) (by first | assumption | (rw [e]; assumption) | (rw [e7]; assumption)) (by first | assumption | (rw [e]; assumption) | (rw [e7]; assumption)) (by first | assumption | (rw [e]; assumption) | (rw [e7]; assumption))
    (try rw [eX] at this)
    (try rw [e] at this)
    (try rw [hA 179 (by decide) (by decide), hA 180 (by decide) (by decide), hA 181 (by decide) (by decide)] at this)
    exact this
  · skip
    have g1a := g1.1
    have g1b := g1.2
    refine PrC_q hI (cp_pain_0 (G := G) (d := 34) (I := I) (F := F) (p := p) (k := k) (by assumption) (by assumption) (by assumption) (by assumption) (by assumption) (by assumption) (by assumption)) (fun X J F' hPx hA => ?_)
    have e : J 171 = w := (hA 171 (by decide) (by decide)).trans hw
    have e7 : J 170 7 = I 170 7 := by rw [hA 170 (by decide) (by decide)]
    have eX : mX J = (w, I 179, I 180, I 181) := by show (J 171, J 179, J 180, J 181) = _; rw [e, hA 179 (by decide) (by decide), hA 180 (by decide) (by decide), hA 181 (by decide) (by decide)]
    have hshX := hPx.1
    have hfxX := hPx.2.1
    have := mp_pain_0 (G := G) (d := 34) (sh := sh ++ X) (I := J) (F := F') (p := p) (k := k) (by first | assumption | (rw [e]; assumption) | (rw [e7]; assumption)) (by first | assumption | (rw [e]; assumption) | (rw [e7]; assumption)) (by first | assumption | (rw [e]; assumption) | (rw [e7]; assumption)) (by first | assumption | (rw [e]; assumption) | (rw [e7]; assumption)) (by first | assumption | (rw [e]; assumption) | (rw [e7]; assumption))
    (try rw [eX] at this)
    (try rw [e] at this)
    (try rw [hA 179 (by decide) (by decide), hA 180 (by decide) (by decide), hA 181 (by decide) (by decide)] at this)
    exact this
theorem pr_owed (hI : INV b sh I F) (hb : 0 ≤ b ∧ b ≤ 800000000) {p q : Int} (jp : jin p) (jq : jin q) : PrC G mX11_owed mX12_owed [xIob, xIae] [jI p, jI q] sh I F (b + 140000) := by
  obtain ⟨hP, hC, hM, h159⟩ := id hI
  obtain ⟨hsh, hfx, hmm, hst, h12, h22⟩ := id hP
  obtain ⟨w, hw⟩ : ∃ w, I 171 = w := ⟨_, rfl⟩
  have hS : Sr sh I F 2 w := by rw [← hw]; exact hC.1
  have hR := hS.1
  have hL := hS.2.2.2
  have hG := hS.2.1
  have hO : OKw b w := by rw [← hw]; exact hM.1
  have hW := hO.1
  have hWP : WfP w := hW.1
  have hWD := WF_D hW
  have hWB := WF_B hW
  have hWA := WF_A hW
  have hWR := WF_R hW
  have h9 : 0 ≤ w 9 ∧ w 9 ≤ 900000000 := ⟨hO.2.1.1, by have := hO.2.1.2; omega⟩
  have h90 := h9.1
  have h10 := hO.2.2.2.1
  have h7 := hM.2.2.2.1
  have g8 : 0 ≤ aPe w ∧ aPe w ≤ 8 := hW.1
  by_cases g1 : gP w p ∧ gP w q
  rotate_left
  · refine PrC_x hI (c := 1) (r := 0) (cp_owed_1 (G := G) (d := 34) (I := I) (F := F) (p := p) (q := q) (by assumption) (by assumption) (by assumption) (by assumption) (by assumption) (by assumption) (by assumption) (by assumption)) (by decide) rfl (fun X J F' hPx hA => ?_)
    have e : J 171 = w := (hA 171 (by decide) (by decide)).trans hw
    have e7 : J 170 7 = I 170 7 := by rw [hA 170 (by decide) (by decide)]
    have eX : mX J = (w, I 179, I 180, I 181) := by show (J 171, J 179, J 180, J 181) = _; rw [e, hA 179 (by decide) (by decide), hA 180 (by decide) (by decide), hA 181 (by decide) (by decide)]
    have hshX := hPx.1
    have hfxX := hPx.2.1
    have := mp_owed_1 (G := G) (d := 34) (sh := sh ++ X) (I := J) (F := F') (p := p) (q := q) (by first | assumption | (rw [e]; assumption) | (rw [e7]; assumption)) (by first | assumption | (rw [e]; assumption) | (rw [e7]; assumption)) (by first | assumption | (rw [e]; assumption) | (rw [e7]; assumption)) (by first | assumption | (rw [e]; assumption) | (rw [e7]; assumption)) (by first | assumption | (rw [e]; assumption) | (rw [e7]; assumption)) (by first | assumption | (rw [e]; assumption) | (rw [e7]; assumption))
    (try rw [eX] at this)
    (try rw [e] at this)
    (try rw [hA 179 (by decide) (by decide), hA 180 (by decide) (by decide), hA 181 (by decide) (by decide)] at this)
    exact this
  · skip
    have gp : 0 ≤ p ∧ p < aPe w := by have := g1.1.1; have := g1.1.2; omega
    have gq : 0 ≤ q ∧ q < aPe w := by have := g1.2.1; have := g1.2.2; omega
    have g1p := g1.1
    have g1q := g1.2
    by_cases g2 : p = q
    · refine PrC_x hI (c := 2) (r := 0) (cp_owed_2 (G := G) (d := 34) (I := I) (F := F) (p := p) (q := q) (by assumption) (by assumption) (by assumption) (by assumption) (by assumption) (by assumption) (by assumption)) (by decide) rfl (fun X J F' hPx hA => ?_)
      have e : J 171 = w := (hA 171 (by decide) (by decide)).trans hw
      have e7 : J 170 7 = I 170 7 := by rw [hA 170 (by decide) (by decide)]
      have eX : mX J = (w, I 179, I 180, I 181) := by show (J 171, J 179, J 180, J 181) = _; rw [e, hA 179 (by decide) (by decide), hA 180 (by decide) (by decide), hA 181 (by decide) (by decide)]
      have hshX := hPx.1
      have hfxX := hPx.2.1
      have := mp_owed_2 (G := G) (d := 34) (sh := sh ++ X) (I := J) (F := F') (p := p) (q := q) (by first | assumption | (rw [e]; assumption) | (rw [e7]; assumption)) (by first | assumption | (rw [e]; assumption) | (rw [e7]; assumption)) (by first | assumption | (rw [e]; assumption) | (rw [e7]; assumption)) (by first | assumption | (rw [e]; assumption) | (rw [e7]; assumption)) (by first | assumption | (rw [e]; assumption) | (rw [e7]; assumption))
      (try rw [eX] at this)
      (try rw [e] at this)
      (try rw [hA 179 (by decide) (by decide), hA 180 (by decide) (by decide), hA 181 (by decide) (by decide)] at this)
      exact this
    · skip
      refine PrC_q hI (cp_owed_0 (G := G) (d := 34) (I := I) (F := F) (p := p) (q := q) (by assumption) (by assumption) (by assumption) (by assumption) (by assumption) (by assumption) (by assumption)) (fun X J F' hPx hA => ?_)
      have e : J 171 = w := (hA 171 (by decide) (by decide)).trans hw
      have e7 : J 170 7 = I 170 7 := by rw [hA 170 (by decide) (by decide)]
      have eX : mX J = (w, I 179, I 180, I 181) := by show (J 171, J 179, J 180, J 181) = _; rw [e, hA 179 (by decide) (by decide), hA 180 (by decide) (by decide), hA 181 (by decide) (by decide)]
      have hshX := hPx.1
      have hfxX := hPx.2.1
      have := mp_owed_0 (G := G) (d := 34) (sh := sh ++ X) (I := J) (F := F') (p := p) (q := q) (by first | assumption | (rw [e]; assumption) | (rw [e7]; assumption)) (by first | assumption | (rw [e]; assumption) | (rw [e7]; assumption)) (by first | assumption | (rw [e]; assumption) | (rw [e7]; assumption)) (by first | assumption | (rw [e]; assumption) | (rw [e7]; assumption)) (by first | assumption | (rw [e]; assumption) | (rw [e7]; assumption))
      (try rw [eX] at this)
      (try rw [e] at this)
      (try rw [hA 179 (by decide) (by decide), hA 180 (by decide) (by decide), hA 181 (by decide) (by decide)] at this)
      exact this
theorem pr_today (hI : INV b sh I F) (hb : 0 ≤ b ∧ b ≤ 800000000) {p k : Int} (jp : jin p) (jk : jin k) : PrC G mX11_today mX12_today [xIob, xIse, xNse] [jI p, jI k] sh I F (b + 140000) := by
  obtain ⟨hP, hC, hM, h159⟩ := id hI
  obtain ⟨hsh, hfx, hmm, hst, h12, h22⟩ := id hP
  obtain ⟨w, hw⟩ : ∃ w, I 171 = w := ⟨_, rfl⟩
  have hS : Sr sh I F 2 w := by rw [← hw]; exact hC.1
  have hR := hS.1
  have hL := hS.2.2.2
  have hG := hS.2.1
  have hO : OKw b w := by rw [← hw]; exact hM.1
  have hW := hO.1
  have hWP : WfP w := hW.1
  have hWD := WF_D hW
  have hWB := WF_B hW
  have hWA := WF_A hW
  have hWR := WF_R hW
  have h9 : 0 ≤ w 9 ∧ w 9 ≤ 900000000 := ⟨hO.2.1.1, by have := hO.2.1.2; omega⟩
  have h90 := h9.1
  have h10 := hO.2.2.2.1
  have h7 := hM.2.2.2.1
  have g8 : 0 ≤ aPe w ∧ aPe w ≤ 8 := hW.1
  by_cases g1 : gP w p
  rotate_left
  · refine PrC_x hI (c := 1) (r := 0) (cp_today_1 (G := G) (d := 31) (I := I) (F := F) (p := p) (k := k) (by assumption) (by assumption) (by assumption) (by assumption) (by assumption)) (by decide) rfl (fun X J F' hPx hA => ?_)
    have e : J 171 = w := (hA 171 (by decide) (by decide)).trans hw
    have e7 : J 170 7 = I 170 7 := by rw [hA 170 (by decide) (by decide)]
    have eX : mX J = (w, I 179, I 180, I 181) := by show (J 171, J 179, J 180, J 181) = _; rw [e, hA 179 (by decide) (by decide), hA 180 (by decide) (by decide), hA 181 (by decide) (by decide)]
    have hshX := hPx.1
    have hfxX := hPx.2.1
    have := mp_today_1 (G := G) (d := 32) (sh := sh ++ X) (I := J) (F := F') (p := p) (k := k) (by first | assumption | (rw [e]; assumption) | (rw [e7]; assumption)) (by first | assumption | (rw [e]; assumption) | (rw [e7]; assumption)) (by first | assumption | (rw [e]; assumption) | (rw [e7]; assumption)) (by first | assumption | (rw [e]; assumption) | (rw [e7]; assumption)) (by first | assumption | (rw [e]; assumption) | (rw [e7]; assumption))
    (try rw [eX] at this)
    (try rw [e] at this)
    (try rw [hA 179 (by decide) (by decide), hA 180 (by decide) (by decide), hA 181 (by decide) (by decide)] at this)
    exact this
  · skip
    have gp : 0 ≤ p ∧ p < aPe w := by have := g1.1; have := g1.2; omega
    by_cases g2 : aOf w p 3 = 0
    rotate_left
    · refine PrC_x hI (c := 2) (r := 0) (cp_today_2 (G := G) (d := 31) (I := I) (F := F) (p := p) (k := k) (by assumption) (by assumption) (by assumption) (by assumption) (by assumption) (by assumption)) (by decide) rfl (fun X J F' hPx hA => ?_)
      have e : J 171 = w := (hA 171 (by decide) (by decide)).trans hw
      have e7 : J 170 7 = I 170 7 := by rw [hA 170 (by decide) (by decide)]
      have eX : mX J = (w, I 179, I 180, I 181) := by show (J 171, J 179, J 180, J 181) = _; rw [e, hA 179 (by decide) (by decide), hA 180 (by decide) (by decide), hA 181 (by decide) (by decide)]
      have hshX := hPx.1
      have hfxX := hPx.2.1
      have := mp_today_2 (G := G) (d := 32) (sh := sh ++ X) (I := J) (F := F') (p := p) (k := k) (by first | assumption | (rw [e]; assumption) | (rw [e7]; assumption)) (by first | assumption | (rw [e]; assumption) | (rw [e7]; assumption)) (by first | assumption | (rw [e]; assumption) | (rw [e7]; assumption)) (by first | assumption | (rw [e]; assumption) | (rw [e7]; assumption)) (by first | assumption | (rw [e]; assumption) | (rw [e7]; assumption))
      (try rw [eX] at this)
      (try rw [e] at this)
      (try rw [hA 179 (by decide) (by decide), hA 180 (by decide) (by decide), hA 181 (by decide) (by decide)] at this)
      exact this
    · skip
      by_cases g3 : 0 ≤ k ∧ k ≤ 2
      rotate_left
      · refine PrC_x hI (c := 3) (r := 0) (cp_today_3 (G := G) (d := 31) (I := I) (F := F) (p := p) (k := k) (by assumption) (by assumption) (by assumption) (by assumption) (by assumption) (by assumption) (by assumption) (by assumption)) (by decide) rfl (fun X J F' hPx hA => ?_)
        have e : J 171 = w := (hA 171 (by decide) (by decide)).trans hw
        have e7 : J 170 7 = I 170 7 := by rw [hA 170 (by decide) (by decide)]
        have eX : mX J = (w, I 179, I 180, I 181) := by show (J 171, J 179, J 180, J 181) = _; rw [e, hA 179 (by decide) (by decide), hA 180 (by decide) (by decide), hA 181 (by decide) (by decide)]
        have hshX := hPx.1
        have hfxX := hPx.2.1
        have := mp_today_3 (G := G) (d := 32) (sh := sh ++ X) (I := J) (F := F') (p := p) (k := k) (by first | assumption | (rw [e]; assumption) | (rw [e7]; assumption)) (by first | assumption | (rw [e]; assumption) | (rw [e7]; assumption)) (by first | assumption | (rw [e]; assumption) | (rw [e7]; assumption)) (by first | assumption | (rw [e]; assumption) | (rw [e7]; assumption)) (by first | assumption | (rw [e]; assumption) | (rw [e7]; assumption)) (by first | assumption | (rw [e]; assumption) | (rw [e7]; assumption)) (by first | assumption | (rw [e]; assumption) | (rw [e7]; assumption))
        (try rw [eX] at this)
        (try rw [e] at this)
        (try rw [hA 179 (by decide) (by decide), hA 180 (by decide) (by decide), hA 181 (by decide) (by decide)] at this)
        exact this
      · skip
        refine PrC_g hI (cp_today_0 (G := G) (d := 31) (I := I) (F := F) (p := p) (k := k) (by assumption) (by assumption) (by assumption) (by assumption) (by assumption) (by assumption) (by assumption) (by assumption) (by assumption) (I 179) (I 180) (I 181) (by assumption) (by assumption) (by assumption)) (fun X J F' hPx hA => ?_)
        have e : J 171 = w := (hA 171 (by decide) (by decide)).trans hw
        have e7 : J 170 7 = I 170 7 := by rw [hA 170 (by decide) (by decide)]
        have eX : mX J = (w, I 179, I 180, I 181) := by show (J 171, J 179, J 180, J 181) = _; rw [e, hA 179 (by decide) (by decide), hA 180 (by decide) (by decide), hA 181 (by decide) (by decide)]
        have hshX := hPx.1
        have hfxX := hPx.2.1
        have := mp_today_0 (G := G) (d := 32) (sh := sh ++ X) (I := J) (F := F') (p := p) (k := k) (by first | assumption | (rw [e]; assumption) | (rw [e7]; assumption)) (by first | assumption | (rw [e]; assumption) | (rw [e7]; assumption)) (by first | assumption | (rw [e]; assumption) | (rw [e7]; assumption)) (by first | assumption | (rw [e]; assumption) | (rw [e7]; assumption)) (by first | assumption | (rw [e]; assumption) | (rw [e7]; assumption)) (by first | assumption | (rw [e]; assumption) | (rw [e7]; assumption)) (by first | assumption | (rw [e]; assumption) | (rw [e7]; assumption)) (by first | assumption | (rw [e]; assumption) | (rw [e7]; assumption))
        (try rw [eX] at this)
        (try rw [e] at this)
        (try rw [hA 179 (by decide) (by decide), hA 180 (by decide) (by decide), hA 181 (by decide) (by decide)] at this)
        exact this
theorem pr_put (hI : INV b sh I F) (hb : 0 ≤ b ∧ b ≤ 800000000) {p n : Int} (jp : jin p) (jn : jin n) : PrC G mX11_put mX12_put [xIob, xIae, xIse] [jI p, jI n] sh I F (b + 140000) := by
  obtain ⟨hP, hC, hM, h159⟩ := id hI
  obtain ⟨hsh, hfx, hmm, hst, h12, h22⟩ := id hP
  obtain ⟨w, hw⟩ : ∃ w, I 171 = w := ⟨_, rfl⟩
  have hS : Sr sh I F 2 w := by rw [← hw]; exact hC.1
  have hR := hS.1
  have hL := hS.2.2.2
  have hG := hS.2.1
  have hO : OKw b w := by rw [← hw]; exact hM.1
  have hW := hO.1
  have hWP : WfP w := hW.1
  have hWD := WF_D hW
  have hWB := WF_B hW
  have hWA := WF_A hW
  have hWR := WF_R hW
  have h9 : 0 ≤ w 9 ∧ w 9 ≤ 900000000 := ⟨hO.2.1.1, by have := hO.2.1.2; omega⟩
  have h90 := h9.1
  have h10 := hO.2.2.2.1
  have h7 := hM.2.2.2.1
  have g8 : 0 ≤ aPe w ∧ aPe w ≤ 8 := hW.1
  by_cases g1 : gP w p
  rotate_left
  · refine PrC_x hI (c := 1) (r := 0) (cp_put_1 (G := G) (d := 34) (I := I) (F := F) (p := p) (n := n) (by assumption) (by assumption) (by assumption) (by assumption) (by assumption) (by assumption)) (by decide) rfl (fun X J F' hPx hA => ?_)
    have e : J 171 = w := (hA 171 (by decide) (by decide)).trans hw
    have e7 : J 170 7 = I 170 7 := by rw [hA 170 (by decide) (by decide)]
    have eX : mX J = (w, I 179, I 180, I 181) := by show (J 171, J 179, J 180, J 181) = _; rw [e, hA 179 (by decide) (by decide), hA 180 (by decide) (by decide), hA 181 (by decide) (by decide)]
    have hshX := hPx.1
    have hfxX := hPx.2.1
    have := mp_put_1 (G := G) (d := 34) (sh := sh ++ X) (I := J) (F := F') (p := p) (n := n) (by first | assumption | (rw [e]; assumption) | (rw [e7]; assumption)) (by first | assumption | (rw [e]; assumption) | (rw [e7]; assumption)) (by first | assumption | (rw [e]; assumption) | (rw [e7]; assumption)) (by first | assumption | (rw [e]; assumption) | (rw [e7]; assumption)) (by first | assumption | (rw [e]; assumption) | (rw [e7]; assumption)) (by first | assumption | (rw [e]; assumption) | (rw [e7]; assumption))
    (try rw [eX] at this)
    (try rw [e] at this)
    (try rw [hA 179 (by decide) (by decide), hA 180 (by decide) (by decide), hA 181 (by decide) (by decide)] at this)
    exact this
  · skip
    have gp : 0 ≤ p ∧ p < aPe w := by have := g1.1; have := g1.2; omega
    by_cases g2 : (1 ≤ n ∧ n ≤ 9999) ∧ aOf w p 1 + n ≤ 99999
    rotate_left
    · refine PrC_x hI (c := 2) (r := 0) (cp_put_2 (G := G) (d := 34) (I := I) (F := F) (p := p) (n := n) (by assumption) (by assumption) (by assumption) (by assumption) (by assumption) (by assumption) (by assumption)) (by decide) rfl (fun X J F' hPx hA => ?_)
      have e : J 171 = w := (hA 171 (by decide) (by decide)).trans hw
      have e7 : J 170 7 = I 170 7 := by rw [hA 170 (by decide) (by decide)]
      have eX : mX J = (w, I 179, I 180, I 181) := by show (J 171, J 179, J 180, J 181) = _; rw [e, hA 179 (by decide) (by decide), hA 180 (by decide) (by decide), hA 181 (by decide) (by decide)]
      have hshX := hPx.1
      have hfxX := hPx.2.1
      have := mp_put_2 (G := G) (d := 34) (sh := sh ++ X) (I := J) (F := F') (p := p) (n := n) (by first | assumption | (rw [e]; assumption) | (rw [e7]; assumption)) (by first | assumption | (rw [e]; assumption) | (rw [e7]; assumption)) (by first | assumption | (rw [e]; assumption) | (rw [e7]; assumption)) (by first | assumption | (rw [e]; assumption) | (rw [e7]; assumption)) (by first | assumption | (rw [e]; assumption) | (rw [e7]; assumption)) (by first | assumption | (rw [e]; assumption) | (rw [e7]; assumption)) (by first | assumption | (rw [e]; assumption) | (rw [e7]; assumption))
      (try rw [eX] at this)
      (try rw [e] at this)
      (try rw [hA 179 (by decide) (by decide), hA 180 (by decide) (by decide), hA 181 (by decide) (by decide)] at this)
      exact this
    · skip
      by_cases g3 : aOf w p 3 = 0 ∧ ¬ w 8 = 1
      rotate_left
      · refine PrC_x hI (c := 3) (r := 0) (cp_put_3 (G := G) (d := 34) (I := I) (F := F) (p := p) (n := n) (by assumption) (by assumption) (by assumption) (by assumption) (by assumption) (by assumption) (by assumption)) (by decide) rfl (fun X J F' hPx hA => ?_)
        have e : J 171 = w := (hA 171 (by decide) (by decide)).trans hw
        have e7 : J 170 7 = I 170 7 := by rw [hA 170 (by decide) (by decide)]
        have eX : mX J = (w, I 179, I 180, I 181) := by show (J 171, J 179, J 180, J 181) = _; rw [e, hA 179 (by decide) (by decide), hA 180 (by decide) (by decide), hA 181 (by decide) (by decide)]
        have hshX := hPx.1
        have hfxX := hPx.2.1
        have := mp_put_3 (G := G) (d := 34) (sh := sh ++ X) (I := J) (F := F') (p := p) (n := n) (by first | assumption | (rw [e]; assumption) | (rw [e7]; assumption)) (by first | assumption | (rw [e]; assumption) | (rw [e7]; assumption)) (by first | assumption | (rw [e]; assumption) | (rw [e7]; assumption)) (by first | assumption | (rw [e]; assumption) | (rw [e7]; assumption)) (by first | assumption | (rw [e]; assumption) | (rw [e7]; assumption)) (by first | assumption | (rw [e]; assumption) | (rw [e7]; assumption)) (by first | assumption | (rw [e]; assumption) | (rw [e7]; assumption))
        (try rw [eX] at this)
        (try rw [e] at this)
        (try rw [hA 179 (by decide) (by decide), hA 180 (by decide) (by decide), hA 181 (by decide) (by decide)] at this)
        exact this
      · skip
        have hM2 : MI (b + 140000) (mzW (mzR I) (wPut w p n)) := MI_now (MI_rem (MI_up hM)) (OKw_B (OKw_put hO gp g2.1.1 g2.2) (by omega)) (fun k hk => by
          show (wPut w p n) k = I 171 k
          rw [hw]
          exact wup_ne _ _ (by omega))
        refine PrC_a (N := fun J => mzW (mzR J) (wPut w p n)) hM2 (fun J hA => MEq_W (MEq_R (Ag_M hA))) (cp_put_0 (G := G) (d := 34) (I := I) (F := F) (p := p) (n := n) (by assumption) hC hw (by assumption) (by assumption) (by assumption) (by assumption)) (fun X J F' hPx hA => ?_)
        have e : J 171 = w := (hA 171 (by decide) (by decide)).trans hw
        have e7 : J 170 7 = I 170 7 := by rw [hA 170 (by decide) (by decide)]
        have eX : mX J = (w, I 179, I 180, I 181) := by show (J 171, J 179, J 180, J 181) = _; rw [e, hA 179 (by decide) (by decide), hA 180 (by decide) (by decide), hA 181 (by decide) (by decide)]
        have hshX := hPx.1
        have hfxX := hPx.2.1
        have := mp_put_0 (G := G) (d := 34) (sh := sh ++ X) (I := J) (F := F') (p := p) (n := n) (by first | assumption | (rw [e]; assumption) | (rw [e7]; assumption)) (by first | assumption | (rw [e]; assumption) | (rw [e7]; assumption)) (by first | assumption | (rw [e]; assumption) | (rw [e7]; assumption)) (by first | assumption | (rw [e]; assumption) | (rw [e7]; assumption)) (by first | assumption | (rw [e]; assumption) | (rw [e7]; assumption)) (by first | assumption | (rw [e]; assumption) | (rw [e7]; assumption)) (by first | assumption | (rw [e]; assumption) | (rw [e7]; assumption))
        (try rw [eX] at this)
        (try rw [e] at this)
        (try rw [hA 179 (by decide) (by decide), hA 180 (by decide) (by decide), hA 181 (by decide) (by decide)] at this)
        exact this
theorem pr_draw (hI : INV b sh I F) (hb : 0 ≤ b ∧ b ≤ 800000000) {p n : Int} (jp : jin p) (jn : jin n) : PrC G mX11_draw mX12_draw [xIob, xIae, xIse] [jI p, jI n] sh I F (b + 140000) := by
  obtain ⟨hP, hC, hM, h159⟩ := id hI
  obtain ⟨hsh, hfx, hmm, hst, h12, h22⟩ := id hP
  obtain ⟨w, hw⟩ : ∃ w, I 171 = w := ⟨_, rfl⟩
  have hS : Sr sh I F 2 w := by rw [← hw]; exact hC.1
  have hR := hS.1
  have hL := hS.2.2.2
  have hG := hS.2.1
  have hO : OKw b w := by rw [← hw]; exact hM.1
  have hW := hO.1
  have hWP : WfP w := hW.1
  have hWD := WF_D hW
  have hWB := WF_B hW
  have hWA := WF_A hW
  have hWR := WF_R hW
  have h9 : 0 ≤ w 9 ∧ w 9 ≤ 900000000 := ⟨hO.2.1.1, by have := hO.2.1.2; omega⟩
  have h90 := h9.1
  have h10 := hO.2.2.2.1
  have h7 := hM.2.2.2.1
  have g8 : 0 ≤ aPe w ∧ aPe w ≤ 8 := hW.1
  by_cases g1 : gP w p
  rotate_left
  · refine PrC_x hI (c := 1) (r := 0) (cp_draw_1 (G := G) (d := 34) (I := I) (F := F) (p := p) (n := n) (by assumption) (by assumption) (by assumption) (by assumption) (by assumption) (by assumption)) (by decide) rfl (fun X J F' hPx hA => ?_)
    have e : J 171 = w := (hA 171 (by decide) (by decide)).trans hw
    have e7 : J 170 7 = I 170 7 := by rw [hA 170 (by decide) (by decide)]
    have eX : mX J = (w, I 179, I 180, I 181) := by show (J 171, J 179, J 180, J 181) = _; rw [e, hA 179 (by decide) (by decide), hA 180 (by decide) (by decide), hA 181 (by decide) (by decide)]
    have hshX := hPx.1
    have hfxX := hPx.2.1
    have := mp_draw_1 (G := G) (d := 34) (sh := sh ++ X) (I := J) (F := F') (p := p) (n := n) (by first | assumption | (rw [e]; assumption) | (rw [e7]; assumption)) (by first | assumption | (rw [e]; assumption) | (rw [e7]; assumption)) (by first | assumption | (rw [e]; assumption) | (rw [e7]; assumption)) (by first | assumption | (rw [e]; assumption) | (rw [e7]; assumption)) (by first | assumption | (rw [e]; assumption) | (rw [e7]; assumption)) (by first | assumption | (rw [e]; assumption) | (rw [e7]; assumption))
    (try rw [eX] at this)
    (try rw [e] at this)
    (try rw [hA 179 (by decide) (by decide), hA 180 (by decide) (by decide), hA 181 (by decide) (by decide)] at this)
    exact this
  · skip
    have gp : 0 ≤ p ∧ p < aPe w := by have := g1.1; have := g1.2; omega
    by_cases g2 : 1 ≤ n ∧ n ≤ aOf w p 1
    rotate_left
    · refine PrC_x hI (c := 2) (r := 0) (cp_draw_2 (G := G) (d := 34) (I := I) (F := F) (p := p) (n := n) (by assumption) (by assumption) (by assumption) (by assumption) (by assumption) (by assumption) (by assumption)) (by decide) rfl (fun X J F' hPx hA => ?_)
      have e : J 171 = w := (hA 171 (by decide) (by decide)).trans hw
      have e7 : J 170 7 = I 170 7 := by rw [hA 170 (by decide) (by decide)]
      have eX : mX J = (w, I 179, I 180, I 181) := by show (J 171, J 179, J 180, J 181) = _; rw [e, hA 179 (by decide) (by decide), hA 180 (by decide) (by decide), hA 181 (by decide) (by decide)]
      have hshX := hPx.1
      have hfxX := hPx.2.1
      have := mp_draw_2 (G := G) (d := 34) (sh := sh ++ X) (I := J) (F := F') (p := p) (n := n) (by first | assumption | (rw [e]; assumption) | (rw [e7]; assumption)) (by first | assumption | (rw [e]; assumption) | (rw [e7]; assumption)) (by first | assumption | (rw [e]; assumption) | (rw [e7]; assumption)) (by first | assumption | (rw [e]; assumption) | (rw [e7]; assumption)) (by first | assumption | (rw [e]; assumption) | (rw [e7]; assumption)) (by first | assumption | (rw [e]; assumption) | (rw [e7]; assumption)) (by first | assumption | (rw [e]; assumption) | (rw [e7]; assumption))
      (try rw [eX] at this)
      (try rw [e] at this)
      (try rw [hA 179 (by decide) (by decide), hA 180 (by decide) (by decide), hA 181 (by decide) (by decide)] at this)
      exact this
    · skip
      by_cases g3 : aOf w p 3 = 0 ∧ ¬ w 8 = 1
      rotate_left
      · refine PrC_x hI (c := 3) (r := 0) (cp_draw_3 (G := G) (d := 34) (I := I) (F := F) (p := p) (n := n) (by assumption) (by assumption) (by assumption) (by assumption) (by assumption) (by assumption) (by assumption)) (by decide) rfl (fun X J F' hPx hA => ?_)
        have e : J 171 = w := (hA 171 (by decide) (by decide)).trans hw
        have e7 : J 170 7 = I 170 7 := by rw [hA 170 (by decide) (by decide)]
        have eX : mX J = (w, I 179, I 180, I 181) := by show (J 171, J 179, J 180, J 181) = _; rw [e, hA 179 (by decide) (by decide), hA 180 (by decide) (by decide), hA 181 (by decide) (by decide)]
        have hshX := hPx.1
        have hfxX := hPx.2.1
        have := mp_draw_3 (G := G) (d := 34) (sh := sh ++ X) (I := J) (F := F') (p := p) (n := n) (by first | assumption | (rw [e]; assumption) | (rw [e7]; assumption)) (by first | assumption | (rw [e]; assumption) | (rw [e7]; assumption)) (by first | assumption | (rw [e]; assumption) | (rw [e7]; assumption)) (by first | assumption | (rw [e]; assumption) | (rw [e7]; assumption)) (by first | assumption | (rw [e]; assumption) | (rw [e7]; assumption)) (by first | assumption | (rw [e]; assumption) | (rw [e7]; assumption)) (by first | assumption | (rw [e]; assumption) | (rw [e7]; assumption))
        (try rw [eX] at this)
        (try rw [e] at this)
        (try rw [hA 179 (by decide) (by decide), hA 180 (by decide) (by decide), hA 181 (by decide) (by decide)] at this)
        exact this
      · skip
        have hM2 : MI (b + 140000) (mzW (mzR I) (wDraw w p n)) := MI_now (MI_rem (MI_up hM)) (OKw_B (OKw_draw hO gp g2) (by omega)) (fun k hk => by
          show (wDraw w p n) k = I 171 k
          rw [hw]
          exact (wup_ne _ _ (by omega)).trans (wup_ne _ _ (by omega)))
        refine PrC_a (N := fun J => mzW (mzR J) (wDraw w p n)) hM2 (fun J hA => MEq_W (MEq_R (Ag_M hA))) (cp_draw_0 (G := G) (d := 34) (I := I) (F := F) (p := p) (n := n) (by assumption) hC hw (by assumption) (by assumption) (by assumption) (by assumption)) (fun X J F' hPx hA => ?_)
        have e : J 171 = w := (hA 171 (by decide) (by decide)).trans hw
        have e7 : J 170 7 = I 170 7 := by rw [hA 170 (by decide) (by decide)]
        have eX : mX J = (w, I 179, I 180, I 181) := by show (J 171, J 179, J 180, J 181) = _; rw [e, hA 179 (by decide) (by decide), hA 180 (by decide) (by decide), hA 181 (by decide) (by decide)]
        have hshX := hPx.1
        have hfxX := hPx.2.1
        have := mp_draw_0 (G := G) (d := 34) (sh := sh ++ X) (I := J) (F := F') (p := p) (n := n) (by first | assumption | (rw [e]; assumption) | (rw [e7]; assumption)) (by first | assumption | (rw [e]; assumption) | (rw [e7]; assumption)) (by first | assumption | (rw [e]; assumption) | (rw [e7]; assumption)) (by first | assumption | (rw [e]; assumption) | (rw [e7]; assumption)) (by first | assumption | (rw [e]; assumption) | (rw [e7]; assumption)) (by first | assumption | (rw [e]; assumption) | (rw [e7]; assumption)) (by first | assumption | (rw [e]; assumption) | (rw [e7]; assumption))
        (try rw [eX] at this)
        (try rw [e] at this)
        (try rw [hA 179 (by decide) (by decide), hA 180 (by decide) (by decide), hA 181 (by decide) (by decide)] at this)
        exact this
theorem pr_cheque (hI : INV b sh I F) (hb : 0 ≤ b ∧ b ≤ 800000000) {p q n : Int} (jp : jin p) (jq : jin q) (jn : jin n) : PrC G mX11_cheque mX12_cheque [xIob, xIae, xIse] [jI p, jI q, jI n] sh I F (b + 140000) := by
  obtain ⟨hP, hC, hM, h159⟩ := id hI
  obtain ⟨hsh, hfx, hmm, hst, h12, h22⟩ := id hP
  obtain ⟨w, hw⟩ : ∃ w, I 171 = w := ⟨_, rfl⟩
  have hS : Sr sh I F 2 w := by rw [← hw]; exact hC.1
  have hR := hS.1
  have hL := hS.2.2.2
  have hG := hS.2.1
  have hO : OKw b w := by rw [← hw]; exact hM.1
  have hW := hO.1
  have hWP : WfP w := hW.1
  have hWD := WF_D hW
  have hWB := WF_B hW
  have hWA := WF_A hW
  have hWR := WF_R hW
  have h9 : 0 ≤ w 9 ∧ w 9 ≤ 900000000 := ⟨hO.2.1.1, by have := hO.2.1.2; omega⟩
  have h90 := h9.1
  have h10 := hO.2.2.2.1
  have h7 := hM.2.2.2.1
  have g8 : 0 ≤ aPe w ∧ aPe w ≤ 8 := hW.1
  by_cases g1 : gP w p ∧ gP w q
  rotate_left
  · refine PrC_x hI (c := 1) (r := 0) (cp_cheque_1 (G := G) (d := 34) (I := I) (F := F) (p := p) (q := q) (n := n) (by assumption) (by assumption) (by assumption) (by assumption) (by assumption) (by assumption) (by assumption)) (by decide) rfl (fun X J F' hPx hA => ?_)
    have e : J 171 = w := (hA 171 (by decide) (by decide)).trans hw
    have e7 : J 170 7 = I 170 7 := by rw [hA 170 (by decide) (by decide)]
    have eX : mX J = (w, I 179, I 180, I 181) := by show (J 171, J 179, J 180, J 181) = _; rw [e, hA 179 (by decide) (by decide), hA 180 (by decide) (by decide), hA 181 (by decide) (by decide)]
    have hshX := hPx.1
    have hfxX := hPx.2.1
    have := mp_cheque_1 (G := G) (d := 34) (sh := sh ++ X) (I := J) (F := F') (p := p) (q := q) (n := n) (by first | assumption | (rw [e]; assumption) | (rw [e7]; assumption)) (by first | assumption | (rw [e]; assumption) | (rw [e7]; assumption)) (by first | assumption | (rw [e]; assumption) | (rw [e7]; assumption)) (by first | assumption | (rw [e]; assumption) | (rw [e7]; assumption)) (by first | assumption | (rw [e]; assumption) | (rw [e7]; assumption)) (by first | assumption | (rw [e]; assumption) | (rw [e7]; assumption)) (by first | assumption | (rw [e]; assumption) | (rw [e7]; assumption))
    (try rw [eX] at this)
    (try rw [e] at this)
    (try rw [hA 179 (by decide) (by decide), hA 180 (by decide) (by decide), hA 181 (by decide) (by decide)] at this)
    exact this
  · skip
    have gp : 0 ≤ p ∧ p < aPe w := by have := g1.1.1; have := g1.1.2; omega
    have gq : 0 ≤ q ∧ q < aPe w := by have := g1.2.1; have := g1.2.2; omega
    have g1p := g1.1
    have g1q := g1.2
    by_cases g2 : ¬ p = q ∧ (1 ≤ n ∧ n ≤ aOf w p 1) ∧ aOf w q 1 + n ≤ 99999
    rotate_left
    · refine PrC_x hI (c := 2) (r := 0) (cp_cheque_2 (G := G) (d := 34) (I := I) (F := F) (p := p) (q := q) (n := n) (by assumption) (by assumption) (by assumption) (by assumption) (by assumption) (by assumption) (by assumption)) (by decide) rfl (fun X J F' hPx hA => ?_)
      have e : J 171 = w := (hA 171 (by decide) (by decide)).trans hw
      have e7 : J 170 7 = I 170 7 := by rw [hA 170 (by decide) (by decide)]
      have eX : mX J = (w, I 179, I 180, I 181) := by show (J 171, J 179, J 180, J 181) = _; rw [e, hA 179 (by decide) (by decide), hA 180 (by decide) (by decide), hA 181 (by decide) (by decide)]
      have hshX := hPx.1
      have hfxX := hPx.2.1
      have := mp_cheque_2 (G := G) (d := 34) (sh := sh ++ X) (I := J) (F := F') (p := p) (q := q) (n := n) (by first | assumption | (rw [e]; assumption) | (rw [e7]; assumption)) (by first | assumption | (rw [e]; assumption) | (rw [e7]; assumption)) (by first | assumption | (rw [e]; assumption) | (rw [e7]; assumption)) (by first | assumption | (rw [e]; assumption) | (rw [e7]; assumption)) (by first | assumption | (rw [e]; assumption) | (rw [e7]; assumption)) (by first | assumption | (rw [e]; assumption) | (rw [e7]; assumption)) (by first | assumption | (rw [e]; assumption) | (rw [e7]; assumption))
      (try rw [eX] at this)
      (try rw [e] at this)
      (try rw [hA 179 (by decide) (by decide), hA 180 (by decide) (by decide), hA 181 (by decide) (by decide)] at this)
      exact this
    · skip
      by_cases g3 : aOf w p 3 = 0 ∧ aOf w q 3 = 0 ∧ ¬ w 8 = 1
      rotate_left
      · refine PrC_x hI (c := 3) (r := 0) (cp_cheque_3 (G := G) (d := 34) (I := I) (F := F) (p := p) (q := q) (n := n) (by assumption) (by assumption) (by assumption) (by assumption) (by assumption) (by assumption) (by assumption)) (by decide) rfl (fun X J F' hPx hA => ?_)
        have e : J 171 = w := (hA 171 (by decide) (by decide)).trans hw
        have e7 : J 170 7 = I 170 7 := by rw [hA 170 (by decide) (by decide)]
        have eX : mX J = (w, I 179, I 180, I 181) := by show (J 171, J 179, J 180, J 181) = _; rw [e, hA 179 (by decide) (by decide), hA 180 (by decide) (by decide), hA 181 (by decide) (by decide)]
        have hshX := hPx.1
        have hfxX := hPx.2.1
        have := mp_cheque_3 (G := G) (d := 34) (sh := sh ++ X) (I := J) (F := F') (p := p) (q := q) (n := n) (by first | assumption | (rw [e]; assumption) | (rw [e7]; assumption)) (by first | assumption | (rw [e]; assumption) | (rw [e7]; assumption)) (by first | assumption | (rw [e]; assumption) | (rw [e7]; assumption)) (by first | assumption | (rw [e]; assumption) | (rw [e7]; assumption)) (by first | assumption | (rw [e]; assumption) | (rw [e7]; assumption)) (by first | assumption | (rw [e]; assumption) | (rw [e7]; assumption)) (by first | assumption | (rw [e]; assumption) | (rw [e7]; assumption))
        (try rw [eX] at this)
        (try rw [e] at this)
        (try rw [hA 179 (by decide) (by decide), hA 180 (by decide) (by decide), hA 181 (by decide) (by decide)] at this)
        exact this
      · skip
        have hM2 : MI (b + 140000) (mzW (mzR I) (wCheq w p q n)) := MI_now (MI_rem (MI_up hM)) (OKw_B (OKw_cheq hO gp gq g2.1 g2.2.1 g2.2.2) (by omega)) (fun k hk => by
          show (wCheq w p q n) k = I 171 k
          rw [hw]
          exact (wup_ne _ _ (by omega)).trans ((wup_ne _ _ (by omega)).trans ((wup_ne _ _ (by omega)).trans (wup_ne _ _ (by omega)))))
        refine PrC_a (N := fun J => mzW (mzR J) (wCheq w p q n)) hM2 (fun J hA => MEq_W (MEq_R (Ag_M hA))) (cp_cheque_0 (G := G) (d := 34) (I := I) (F := F) (p := p) (q := q) (n := n) (by assumption) hC hw (by assumption) (by assumption) (by assumption) (by assumption)) (fun X J F' hPx hA => ?_)
        have e : J 171 = w := (hA 171 (by decide) (by decide)).trans hw
        have e7 : J 170 7 = I 170 7 := by rw [hA 170 (by decide) (by decide)]
        have eX : mX J = (w, I 179, I 180, I 181) := by show (J 171, J 179, J 180, J 181) = _; rw [e, hA 179 (by decide) (by decide), hA 180 (by decide) (by decide), hA 181 (by decide) (by decide)]
        have hshX := hPx.1
        have hfxX := hPx.2.1
        have := mp_cheque_0 (G := G) (d := 34) (sh := sh ++ X) (I := J) (F := F') (p := p) (q := q) (n := n) (by first | assumption | (rw [e]; assumption) | (rw [e7]; assumption)) (by first | assumption | (rw [e]; assumption) | (rw [e7]; assumption)) (by first | assumption | (rw [e]; assumption) | (rw [e7]; assumption)) (by first | assumption | (rw [e]; assumption) | (rw [e7]; assumption)) (by first | assumption | (rw [e]; assumption) | (rw [e7]; assumption)) (by first | assumption | (rw [e]; assumption) | (rw [e7]; assumption)) (by first | assumption | (rw [e]; assumption) | (rw [e7]; assumption))
        (try rw [eX] at this)
        (try rw [e] at this)
        (try rw [hA 179 (by decide) (by decide), hA 180 (by decide) (by decide), hA 181 (by decide) (by decide)] at this)
        exact this
theorem pr_owe (hI : INV b sh I F) (hb : 0 ≤ b ∧ b ≤ 800000000) {p q n : Int} (jp : jin p) (jq : jin q) (jn : jin n) : PrC G mX11_owe mX12_owe [xIob, xIae, xIse] [jI p, jI q, jI n] sh I F (b + 140000) := by
  obtain ⟨hP, hC, hM, h159⟩ := id hI
  obtain ⟨hsh, hfx, hmm, hst, h12, h22⟩ := id hP
  obtain ⟨w, hw⟩ : ∃ w, I 171 = w := ⟨_, rfl⟩
  have hS : Sr sh I F 2 w := by rw [← hw]; exact hC.1
  have hR := hS.1
  have hL := hS.2.2.2
  have hG := hS.2.1
  have hO : OKw b w := by rw [← hw]; exact hM.1
  have hW := hO.1
  have hWP : WfP w := hW.1
  have hWD := WF_D hW
  have hWB := WF_B hW
  have hWA := WF_A hW
  have hWR := WF_R hW
  have h9 : 0 ≤ w 9 ∧ w 9 ≤ 900000000 := ⟨hO.2.1.1, by have := hO.2.1.2; omega⟩
  have h90 := h9.1
  have h10 := hO.2.2.2.1
  have h7 := hM.2.2.2.1
  have g8 : 0 ≤ aPe w ∧ aPe w ≤ 8 := hW.1
  by_cases g1 : gP w p ∧ gP w q
  rotate_left
  · refine PrC_x hI (c := 1) (r := 0) (cp_owe_1 (G := G) (d := 34) (I := I) (F := F) (p := p) (q := q) (n := n) (by assumption) (by assumption) (by assumption) (by assumption) (by assumption) (by assumption) (by assumption)) (by decide) rfl (fun X J F' hPx hA => ?_)
    have e : J 171 = w := (hA 171 (by decide) (by decide)).trans hw
    have e7 : J 170 7 = I 170 7 := by rw [hA 170 (by decide) (by decide)]
    have eX : mX J = (w, I 179, I 180, I 181) := by show (J 171, J 179, J 180, J 181) = _; rw [e, hA 179 (by decide) (by decide), hA 180 (by decide) (by decide), hA 181 (by decide) (by decide)]
    have hshX := hPx.1
    have hfxX := hPx.2.1
    have := mp_owe_1 (G := G) (d := 34) (sh := sh ++ X) (I := J) (F := F') (p := p) (q := q) (n := n) (by first | assumption | (rw [e]; assumption) | (rw [e7]; assumption)) (by first | assumption | (rw [e]; assumption) | (rw [e7]; assumption)) (by first | assumption | (rw [e]; assumption) | (rw [e7]; assumption)) (by first | assumption | (rw [e]; assumption) | (rw [e7]; assumption)) (by first | assumption | (rw [e]; assumption) | (rw [e7]; assumption)) (by first | assumption | (rw [e]; assumption) | (rw [e7]; assumption)) (by first | assumption | (rw [e]; assumption) | (rw [e7]; assumption))
    (try rw [eX] at this)
    (try rw [e] at this)
    (try rw [hA 179 (by decide) (by decide), hA 180 (by decide) (by decide), hA 181 (by decide) (by decide)] at this)
    exact this
  · skip
    have gp : 0 ≤ p ∧ p < aPe w := by have := g1.1.1; have := g1.1.2; omega
    have gq : 0 ≤ q ∧ q < aPe w := by have := g1.2.1; have := g1.2.2; omega
    have g1p := g1.1
    have g1q := g1.2
    by_cases g2 : ¬ p = q ∧ 1 ≤ n ∧ n ≤ 999
    rotate_left
    · refine PrC_x hI (c := 2) (r := 0) (cp_owe_2 (G := G) (d := 34) (I := I) (F := F) (p := p) (q := q) (n := n) (by assumption) (by assumption) (by assumption) (by assumption) (by assumption) (by assumption) (by assumption)) (by decide) rfl (fun X J F' hPx hA => ?_)
      have e : J 171 = w := (hA 171 (by decide) (by decide)).trans hw
      have e7 : J 170 7 = I 170 7 := by rw [hA 170 (by decide) (by decide)]
      have eX : mX J = (w, I 179, I 180, I 181) := by show (J 171, J 179, J 180, J 181) = _; rw [e, hA 179 (by decide) (by decide), hA 180 (by decide) (by decide), hA 181 (by decide) (by decide)]
      have hshX := hPx.1
      have hfxX := hPx.2.1
      have := mp_owe_2 (G := G) (d := 34) (sh := sh ++ X) (I := J) (F := F') (p := p) (q := q) (n := n) (by first | assumption | (rw [e]; assumption) | (rw [e7]; assumption)) (by first | assumption | (rw [e]; assumption) | (rw [e7]; assumption)) (by first | assumption | (rw [e]; assumption) | (rw [e7]; assumption)) (by first | assumption | (rw [e]; assumption) | (rw [e7]; assumption)) (by first | assumption | (rw [e]; assumption) | (rw [e7]; assumption)) (by first | assumption | (rw [e]; assumption) | (rw [e7]; assumption)) (by first | assumption | (rw [e]; assumption) | (rw [e7]; assumption))
      (try rw [eX] at this)
      (try rw [e] at this)
      (try rw [hA 179 (by decide) (by decide), hA 180 (by decide) (by decide), hA 181 (by decide) (by decide)] at this)
      exact this
    · skip
      by_cases g3 : 9999 < jwr (aOw w p q + n)
      · refine PrC_x hI (c := 3) (r := 0) (cp_owe_3 (G := G) (d := 34) (I := I) (F := F) (p := p) (q := q) (n := n) (by assumption) (by assumption) (by assumption) (by assumption) (by assumption) (by assumption) (by assumption)) (by decide) rfl (fun X J F' hPx hA => ?_)
        have e : J 171 = w := (hA 171 (by decide) (by decide)).trans hw
        have e7 : J 170 7 = I 170 7 := by rw [hA 170 (by decide) (by decide)]
        have eX : mX J = (w, I 179, I 180, I 181) := by show (J 171, J 179, J 180, J 181) = _; rw [e, hA 179 (by decide) (by decide), hA 180 (by decide) (by decide), hA 181 (by decide) (by decide)]
        have hshX := hPx.1
        have hfxX := hPx.2.1
        have := mp_owe_3 (G := G) (d := 34) (sh := sh ++ X) (I := J) (F := F') (p := p) (q := q) (n := n) (by first | assumption | (rw [e]; assumption) | (rw [e7]; assumption)) (by first | assumption | (rw [e]; assumption) | (rw [e7]; assumption)) (by first | assumption | (rw [e]; assumption) | (rw [e7]; assumption)) (by first | assumption | (rw [e]; assumption) | (rw [e7]; assumption)) (by first | assumption | (rw [e]; assumption) | (rw [e7]; assumption)) (by first | assumption | (rw [e]; assumption) | (rw [e7]; assumption)) (by first | assumption | (rw [e]; assumption) | (rw [e7]; assumption))
        (try rw [eX] at this)
        (try rw [e] at this)
        (try rw [hA 179 (by decide) (by decide), hA 180 (by decide) (by decide), hA 181 (by decide) (by decide)] at this)
        exact this
      · skip
        have hM2 : MI (b + 140000) (mzW (mzR I) (wOwe w p q n)) := MI_now (MI_rem (MI_up hM)) (OKw_B (OKw_owe hO ⟨hb.1, by omega⟩ gp gq g2.2) (by omega)) (fun k hk => by
          show (wOwe w p q n) k = I 171 k
          rw [hw]
          exact wup_ne _ _ (by omega))
        refine PrC_a (N := fun J => mzW (mzR J) (wOwe w p q n)) hM2 (fun J hA => MEq_W (MEq_R (Ag_M hA))) (cp_owe_0 (G := G) (d := 34) (I := I) (F := F) (p := p) (q := q) (n := n) (by assumption) hC hw (by assumption) (by assumption) (by assumption) (by assumption)) (fun X J F' hPx hA => ?_)
        have e : J 171 = w := (hA 171 (by decide) (by decide)).trans hw
        have e7 : J 170 7 = I 170 7 := by rw [hA 170 (by decide) (by decide)]
        have eX : mX J = (w, I 179, I 180, I 181) := by show (J 171, J 179, J 180, J 181) = _; rw [e, hA 179 (by decide) (by decide), hA 180 (by decide) (by decide), hA 181 (by decide) (by decide)]
        have hshX := hPx.1
        have hfxX := hPx.2.1
        have := mp_owe_0 (G := G) (d := 34) (sh := sh ++ X) (I := J) (F := F') (p := p) (q := q) (n := n) (by first | assumption | (rw [e]; assumption) | (rw [e7]; assumption)) (by first | assumption | (rw [e]; assumption) | (rw [e7]; assumption)) (by first | assumption | (rw [e]; assumption) | (rw [e7]; assumption)) (by first | assumption | (rw [e]; assumption) | (rw [e7]; assumption)) (by first | assumption | (rw [e]; assumption) | (rw [e7]; assumption)) (by first | assumption | (rw [e]; assumption) | (rw [e7]; assumption)) (by first | assumption | (rw [e]; assumption) | (rw [e7]; assumption))
        (try rw [eX] at this)
        (try rw [e] at this)
        (try rw [hA 179 (by decide) (by decide), hA 180 (by decide) (by decide), hA 181 (by decide) (by decide)] at this)
        exact this
theorem pr_die (hI : INV b sh I F) (hb : 0 ≤ b ∧ b ≤ 800000000) {p : Int} (jp : jin p) : PrC G mX11_die mX12_die [xIob, xIse] [jI p] sh I F (b + 140000) := by
  obtain ⟨hP, hC, hM, h159⟩ := id hI
  obtain ⟨hsh, hfx, hmm, hst, h12, h22⟩ := id hP
  obtain ⟨w, hw⟩ : ∃ w, I 171 = w := ⟨_, rfl⟩
  have hS : Sr sh I F 2 w := by rw [← hw]; exact hC.1
  have hR := hS.1
  have hL := hS.2.2.2
  have hG := hS.2.1
  have hO : OKw b w := by rw [← hw]; exact hM.1
  have hW := hO.1
  have hWP : WfP w := hW.1
  have hWD := WF_D hW
  have hWB := WF_B hW
  have hWA := WF_A hW
  have hWR := WF_R hW
  have h9 : 0 ≤ w 9 ∧ w 9 ≤ 900000000 := ⟨hO.2.1.1, by have := hO.2.1.2; omega⟩
  have h90 := h9.1
  have h10 := hO.2.2.2.1
  have h7 := hM.2.2.2.1
  have g8 : 0 ≤ aPe w ∧ aPe w ≤ 8 := hW.1
  by_cases g1 : gP w p
  rotate_left
  · refine PrC_x hI (c := 1) (r := 0) (cp_die_1 (G := G) (d := 34) (I := I) (F := F) (p := p) (by assumption) (by assumption) (by assumption) (by assumption) (by assumption)) (by decide) rfl (fun X J F' hPx hA => ?_)
    have e : J 171 = w := (hA 171 (by decide) (by decide)).trans hw
    have e7 : J 170 7 = I 170 7 := by rw [hA 170 (by decide) (by decide)]
    have eX : mX J = (w, I 179, I 180, I 181) := by show (J 171, J 179, J 180, J 181) = _; rw [e, hA 179 (by decide) (by decide), hA 180 (by decide) (by decide), hA 181 (by decide) (by decide)]
    have hshX := hPx.1
    have hfxX := hPx.2.1
    have := mp_die_1 (G := G) (d := 34) (sh := sh ++ X) (I := J) (F := F') (p := p) (by first | assumption | (rw [e]; assumption) | (rw [e7]; assumption)) (by first | assumption | (rw [e]; assumption) | (rw [e7]; assumption)) (by first | assumption | (rw [e]; assumption) | (rw [e7]; assumption)) (by first | assumption | (rw [e]; assumption) | (rw [e7]; assumption)) (by first | assumption | (rw [e]; assumption) | (rw [e7]; assumption))
    (try rw [eX] at this)
    (try rw [e] at this)
    (try rw [hA 179 (by decide) (by decide), hA 180 (by decide) (by decide), hA 181 (by decide) (by decide)] at this)
    exact this
  · skip
    have gp : 0 ≤ p ∧ p < aPe w := by have := g1.1; have := g1.2; omega
    by_cases g2 : aOf w p 3 = 0
    rotate_left
    · refine PrC_x hI (c := 2) (r := 0) (cp_die_2 (G := G) (d := 34) (I := I) (F := F) (p := p) (by assumption) (by assumption) (by assumption) (by assumption) (by assumption)) (by decide) rfl (fun X J F' hPx hA => ?_)
      have e : J 171 = w := (hA 171 (by decide) (by decide)).trans hw
      have e7 : J 170 7 = I 170 7 := by rw [hA 170 (by decide) (by decide)]
      have eX : mX J = (w, I 179, I 180, I 181) := by show (J 171, J 179, J 180, J 181) = _; rw [e, hA 179 (by decide) (by decide), hA 180 (by decide) (by decide), hA 181 (by decide) (by decide)]
      have hshX := hPx.1
      have hfxX := hPx.2.1
      have := mp_die_2 (G := G) (d := 34) (sh := sh ++ X) (I := J) (F := F') (p := p) (by first | assumption | (rw [e]; assumption) | (rw [e7]; assumption)) (by first | assumption | (rw [e]; assumption) | (rw [e7]; assumption)) (by first | assumption | (rw [e]; assumption) | (rw [e7]; assumption)) (by first | assumption | (rw [e]; assumption) | (rw [e7]; assumption)) (by first | assumption | (rw [e]; assumption) | (rw [e7]; assumption))
      (try rw [eX] at this)
      (try rw [e] at this)
      (try rw [hA 179 (by decide) (by decide), hA 180 (by decide) (by decide), hA 181 (by decide) (by decide)] at this)
      exact this
    · skip
      have hne := hO.2.2.2.2.1 p gp.1 gp.2
      have hM2 : MI (b + 140000) (mzW (mzR I) (wDie w p)) := MI_now (MI_rem (MI_up hM)) (OKw_B (OKw_die hO gp) (by omega)) (fun k hk => by
        show (wDie w p) k = I 171 k
        rw [hw]
        exact wDie_o ⟨gp.1, by omega⟩ (by have := (hW.2.1.2.2 p gp.1 gp.2).2.2.2.2.1.2; omega) (by omega))
      refine PrC_a (N := fun J => mzW (mzR J) (wDie w p)) hM2 (fun J hA => MEq_W (MEq_R (Ag_M hA))) (cp_die_0 (G := G) (d := 34) (I := I) (F := F) (p := p) (by assumption) hC hw (by assumption) (by assumption) (by assumption) (by assumption)) (fun X J F' hPx hA => ?_)
      have e : J 171 = w := (hA 171 (by decide) (by decide)).trans hw
      have e7 : J 170 7 = I 170 7 := by rw [hA 170 (by decide) (by decide)]
      have eX : mX J = (w, I 179, I 180, I 181) := by show (J 171, J 179, J 180, J 181) = _; rw [e, hA 179 (by decide) (by decide), hA 180 (by decide) (by decide), hA 181 (by decide) (by decide)]
      have hshX := hPx.1
      have hfxX := hPx.2.1
      have := mp_die_0 (G := G) (d := 34) (sh := sh ++ X) (I := J) (F := F') (p := p) (by first | assumption | (rw [e]; assumption) | (rw [e7]; assumption)) (by first | assumption | (rw [e]; assumption) | (rw [e7]; assumption)) (by first | assumption | (rw [e]; assumption) | (rw [e7]; assumption)) (by first | assumption | (rw [e]; assumption) | (rw [e7]; assumption)) (by first | assumption | (rw [e]; assumption) | (rw [e7]; assumption)) (by first | assumption | (rw [e]; assumption) | (rw [e7]; assumption)) (by first | assumption | (rw [e]; assumption) | (rw [e7]; assumption))
      (try rw [eX] at this)
      (try rw [e] at this)
      (try rw [hA 179 (by decide) (by decide), hA 180 (by decide) (by decide), hA 181 (by decide) (by decide)] at this)
      exact this
theorem pr_hear (hI : INV b sh I F) (hb : 0 ≤ b ∧ b ≤ 800000000) {p x : Int} (jp : jin p) (jx : jin x) : PrC G mX11_hear mX12_hear [xIob] [jI p, jI x] sh I F (b + 140000) := by
  obtain ⟨hP, hC, hM, h159⟩ := id hI
  obtain ⟨hsh, hfx, hmm, hst, h12, h22⟩ := id hP
  obtain ⟨w, hw⟩ : ∃ w, I 171 = w := ⟨_, rfl⟩
  have hS : Sr sh I F 2 w := by rw [← hw]; exact hC.1
  have hR := hS.1
  have hL := hS.2.2.2
  have hG := hS.2.1
  have hO : OKw b w := by rw [← hw]; exact hM.1
  have hW := hO.1
  have hWP : WfP w := hW.1
  have hWD := WF_D hW
  have hWB := WF_B hW
  have hWA := WF_A hW
  have hWR := WF_R hW
  have h9 : 0 ≤ w 9 ∧ w 9 ≤ 900000000 := ⟨hO.2.1.1, by have := hO.2.1.2; omega⟩
  have h90 := h9.1
  have h10 := hO.2.2.2.1
  have h7 := hM.2.2.2.1
  have g8 : 0 ≤ aPe w ∧ aPe w ≤ 8 := hW.1
  by_cases g1 : gP w p
  rotate_left
  · refine PrC_x hI (c := 1) (r := 0) (cp_hear_1 (G := G) (d := 34) (I := I) (F := F) (p := p) (x := x) (by assumption) (by assumption) (by assumption) (by assumption) (by assumption) (by assumption)) (by decide) rfl (fun X J F' hPx hA => ?_)
    have e : J 171 = w := (hA 171 (by decide) (by decide)).trans hw
    have e7 : J 170 7 = I 170 7 := by rw [hA 170 (by decide) (by decide)]
    have eX : mX J = (w, I 179, I 180, I 181) := by show (J 171, J 179, J 180, J 181) = _; rw [e, hA 179 (by decide) (by decide), hA 180 (by decide) (by decide), hA 181 (by decide) (by decide)]
    have hshX := hPx.1
    have hfxX := hPx.2.1
    have := mp_hear_1 (G := G) (d := 34) (sh := sh ++ X) (I := J) (F := F') (p := p) (x := x) (by first | assumption | (rw [e]; assumption) | (rw [e7]; assumption)) (by first | assumption | (rw [e]; assumption) | (rw [e7]; assumption)) (by first | assumption | (rw [e]; assumption) | (rw [e7]; assumption)) (by first | assumption | (rw [e]; assumption) | (rw [e7]; assumption)) (by first | assumption | (rw [e]; assumption) | (rw [e7]; assumption)) (by first | assumption | (rw [e]; assumption) | (rw [e7]; assumption))
    (try rw [eX] at this)
    (try rw [e] at this)
    (try rw [hA 179 (by decide) (by decide), hA 180 (by decide) (by decide), hA 181 (by decide) (by decide)] at this)
    exact this
  · skip
    have gp : 0 ≤ p ∧ p < aPe w := by have := g1.1; have := g1.2; omega
    have hM2 : MI (b + 140000) (mzW (mzR I) (wHear w p x)) := MI_now (MI_rem (MI_up hM)) (OKw_B (OKw_hear hO gp) (by omega)) (fun k hk => by
      show (wHear w p x) k = I 171 k
      rw [hw]
      exact wup_ne _ _ (by omega))
    refine PrC_a (N := fun J => mzW (mzR J) (wHear w p x)) hM2 (fun J hA => MEq_W (MEq_R (Ag_M hA))) (cp_hear_0 (G := G) (d := 34) (I := I) (F := F) (p := p) (x := x) (by assumption) hC hw (by assumption) (by assumption)) (fun X J F' hPx hA => ?_)
    have e : J 171 = w := (hA 171 (by decide) (by decide)).trans hw
    have e7 : J 170 7 = I 170 7 := by rw [hA 170 (by decide) (by decide)]
    have eX : mX J = (w, I 179, I 180, I 181) := by show (J 171, J 179, J 180, J 181) = _; rw [e, hA 179 (by decide) (by decide), hA 180 (by decide) (by decide), hA 181 (by decide) (by decide)]
    have hshX := hPx.1
    have hfxX := hPx.2.1
    have := mp_hear_0 (G := G) (d := 34) (sh := sh ++ X) (I := J) (F := F') (p := p) (x := x) (by first | assumption | (rw [e]; assumption) | (rw [e7]; assumption)) (by first | assumption | (rw [e]; assumption) | (rw [e7]; assumption)) (by first | assumption | (rw [e]; assumption) | (rw [e7]; assumption)) (by first | assumption | (rw [e]; assumption) | (rw [e7]; assumption)) (by first | assumption | (rw [e]; assumption) | (rw [e7]; assumption))
    (try rw [eX] at this)
    (try rw [e] at this)
    (try rw [hA 179 (by decide) (by decide), hA 180 (by decide) (by decide), hA 181 (by decide) (by decide)] at this)
    exact this
theorem pr_refound (hI : INV b sh I F) (hb : 0 ≤ b ∧ b ≤ 800000000) : PrC G mX11_refound mX12_refound [] [] sh I F (b + 140000) := by
  obtain ⟨hP, hC, hM, h159⟩ := id hI
  obtain ⟨hsh, hfx, hmm, hst, h12, h22⟩ := id hP
  obtain ⟨w, hw⟩ : ∃ w, I 171 = w := ⟨_, rfl⟩
  have hS : Sr sh I F 2 w := by rw [← hw]; exact hC.1
  have hR := hS.1
  have hL := hS.2.2.2
  have hG := hS.2.1
  have hO : OKw b w := by rw [← hw]; exact hM.1
  have hW := hO.1
  have hWP : WfP w := hW.1
  have hWD := WF_D hW
  have hWB := WF_B hW
  have hWA := WF_A hW
  have hWR := WF_R hW
  have h9 : 0 ≤ w 9 ∧ w 9 ≤ 900000000 := ⟨hO.2.1.1, by have := hO.2.1.2; omega⟩
  have h90 := h9.1
  have h10 := hO.2.2.2.1
  have h7 := hM.2.2.2.1
  have g8 : 0 ≤ aPe w ∧ aPe w ≤ 8 := hW.1
  have hM2 : MI (b + 140000) (mzW (mzR I) (wup w 8 0)) := MI_now (MI_rem (MI_up hM)) (OKw_B (OKw_found hO) (by omega)) (fun k hk => by
    show (wup w 8 0) k = I 171 k
    rw [hw]
    exact wup_ne _ _ (by omega))
  refine PrC_a (N := fun J => mzW (mzR J) (wup w 8 0)) hM2 (fun J hA => MEq_W (MEq_R (Ag_M hA))) (cp_refound_0 (G := G) (d := 34) (I := I) (F := F) (by assumption) hC hw (by assumption)) (fun X J F' hPx hA => ?_)
  have e : J 171 = w := (hA 171 (by decide) (by decide)).trans hw
  have e7 : J 170 7 = I 170 7 := by rw [hA 170 (by decide) (by decide)]
  have eX : mX J = (w, I 179, I 180, I 181) := by show (J 171, J 179, J 180, J 181) = _; rw [e, hA 179 (by decide) (by decide), hA 180 (by decide) (by decide), hA 181 (by decide) (by decide)]
  have hshX := hPx.1
  have hfxX := hPx.2.1
  have := mp_refound_0 (G := G) (d := 34) (sh := sh ++ X) (I := J) (F := F') (by first | assumption | (rw [e]; assumption) | (rw [e7]; assumption)) (by first | assumption | (rw [e]; assumption) | (rw [e7]; assumption)) (by first | assumption | (rw [e]; assumption) | (rw [e7]; assumption)) (by first | assumption | (rw [e]; assumption) | (rw [e7]; assumption))
  (try rw [eX] at this)
  (try rw [e] at this)
  (try rw [hA 179 (by decide) (by decide), hA 180 (by decide) (by decide), hA 181 (by decide) (by decide)] at this)
  exact this
theorem pr_days (hI : INV b sh I F) (hb : 0 ≤ b ∧ b ≤ 800000000) {n : Int} (jn : jin n) : PrC G mX11_days mX12_days [xIae] [jI n] sh I F (b + 140000) := by
  obtain ⟨hP, hC, hM, h159⟩ := id hI
  obtain ⟨hsh, hfx, hmm, hst, h12, h22⟩ := id hP
  obtain ⟨w, hw⟩ : ∃ w, I 171 = w := ⟨_, rfl⟩
  have hS : Sr sh I F 2 w := by rw [← hw]; exact hC.1
  have hR := hS.1
  have hL := hS.2.2.2
  have hG := hS.2.1
  have hO : OKw b w := by rw [← hw]; exact hM.1
  have hW := hO.1
  have hWP : WfP w := hW.1
  have hWD := WF_D hW
  have hWB := WF_B hW
  have hWA := WF_A hW
  have hWR := WF_R hW
  have h9 : 0 ≤ w 9 ∧ w 9 ≤ 900000000 := ⟨hO.2.1.1, by have := hO.2.1.2; omega⟩
  have h90 := h9.1
  have h10 := hO.2.2.2.1
  have h7 := hM.2.2.2.1
  have g8 : 0 ≤ aPe w ∧ aPe w ≤ 8 := hW.1
  by_cases g1 : 1 ≤ n ∧ n ≤ 60
  rotate_left
  · refine PrC_x hI (c := 1) (r := 0) (cp_days_1 (G := G) (d := 31) (I := I) (F := F) (n := n) (by assumption) (by assumption) (by assumption)) (by decide) rfl (fun X J F' hPx hA => ?_)
    have e : J 171 = w := (hA 171 (by decide) (by decide)).trans hw
    have e7 : J 170 7 = I 170 7 := by rw [hA 170 (by decide) (by decide)]
    have eX : mX J = (w, I 179, I 180, I 181) := by show (J 171, J 179, J 180, J 181) = _; rw [e, hA 179 (by decide) (by decide), hA 180 (by decide) (by decide), hA 181 (by decide) (by decide)]
    have hshX := hPx.1
    have hfxX := hPx.2.1
    have := mp_days_1 (G := G) (d := 31) (sh := sh ++ X) (I := J) (F := F') (n := n) (by first | assumption | (rw [e]; assumption) | (rw [e7]; assumption)) (by first | assumption | (rw [e]; assumption) | (rw [e7]; assumption)) (by first | assumption | (rw [e]; assumption) | (rw [e7]; assumption)) (by first | assumption | (rw [e]; assumption) | (rw [e7]; assumption))
    (try rw [eX] at this)
    (try rw [e] at this)
    (try rw [hA 179 (by decide) (by decide), hA 180 (by decide) (by decide), hA 181 (by decide) (by decide)] at this)
    exact this
  · skip
    have hM2 : MI (b + 140000) (mzW (mzR I) ((mDays 0 (w, I 179, I 180, I 181) n.toNat).1)) := MI_now (MI_rem (MI_up hM)) (OKw_B (OKw_days hO ⟨by omega, by omega⟩) (by omega)) (fun k hk => by
      show (mDays 0 (w, I 179, I 180, I 181) n.toNat).1 k = I 171 k
      rw [hw]
      exact (mDays_ok hW h9.1 h10 n.toNat).2.2.2 k (by omega))
    refine PrC_a (N := fun J => mzW (mzR J) ((mDays 0 (w, I 179, I 180, I 181) n.toNat).1)) hM2 (fun J hA => MEq_W (MEq_R (Ag_M hA))) (cp_days_0 (G := G) (d := 31) (I := I) (F := F) (n := n) (by assumption) hC hw (by assumption) (by assumption) (by assumption) (I 179) (I 180) (I 181) (by assumption)) (fun X J F' hPx hA => ?_)
    have e : J 171 = w := (hA 171 (by decide) (by decide)).trans hw
    have e7 : J 170 7 = I 170 7 := by rw [hA 170 (by decide) (by decide)]
    have eX : mX J = (w, I 179, I 180, I 181) := by show (J 171, J 179, J 180, J 181) = _; rw [e, hA 179 (by decide) (by decide), hA 180 (by decide) (by decide), hA 181 (by decide) (by decide)]
    have hshX := hPx.1
    have hfxX := hPx.2.1
    have := mp_days_0 (G := G) (d := 31) (sh := sh ++ X) (I := J) (F := F') (n := n) (by first | assumption | (rw [e]; assumption) | (rw [e7]; assumption)) (by first | assumption | (rw [e]; assumption) | (rw [e7]; assumption)) (by first | assumption | (rw [e]; assumption) | (rw [e7]; assumption)) (by first | assumption | (rw [e]; assumption) | (rw [e7]; assumption)) (by first | assumption | (rw [e]; assumption) | (rw [e7]; assumption)) (by first | assumption | (rw [e]; assumption) | (rw [e7]; assumption)) (by first | assumption | (rw [e]; assumption) | (rw [e7]; assumption))
    (try rw [eX] at this)
    (try rw [e] at this)
    (try rw [hA 179 (by decide) (by decide), hA 180 (by decide) (by decide), hA 181 (by decide) (by decide)] at this)
    exact this
theorem pr_ahead (hI : INV b sh I F) (hb : 0 ≤ b ∧ b ≤ 800000000) {p k : Int} (jp : jin p) (jk : jin k) : PrC G mX11_ahead mX12_ahead [xIob, xIae] [jI p, jI k] sh I F (b + 140000) := by
  obtain ⟨hP, hC, hM, h159⟩ := id hI
  obtain ⟨hsh, hfx, hmm, hst, h12, h22⟩ := id hP
  obtain ⟨w, hw⟩ : ∃ w, I 171 = w := ⟨_, rfl⟩
  have hS : Sr sh I F 2 w := by rw [← hw]; exact hC.1
  have hR := hS.1
  have hL := hS.2.2.2
  have hG := hS.2.1
  have hO : OKw b w := by rw [← hw]; exact hM.1
  have hW := hO.1
  have hWP : WfP w := hW.1
  have hWD := WF_D hW
  have hWB := WF_B hW
  have hWA := WF_A hW
  have hWR := WF_R hW
  have h9 : 0 ≤ w 9 ∧ w 9 ≤ 900000000 := ⟨hO.2.1.1, by have := hO.2.1.2; omega⟩
  have h90 := h9.1
  have h10 := hO.2.2.2.1
  have h7 := hM.2.2.2.1
  have g8 : 0 ≤ aPe w ∧ aPe w ≤ 8 := hW.1
  by_cases g1 : gP w p
  rotate_left
  · refine PrC_x hI (c := 1) (r := 0) (cp_ahead_1 (G := G) (d := 31) (I := I) (F := F) (p := p) (k := k) (by assumption) (by assumption) (by assumption) (by assumption) (by assumption)) (by decide) rfl (fun X J F' hPx hA => ?_)
    have e : J 171 = w := (hA 171 (by decide) (by decide)).trans hw
    have e7 : J 170 7 = I 170 7 := by rw [hA 170 (by decide) (by decide)]
    have eX : mX J = (w, I 179, I 180, I 181) := by show (J 171, J 179, J 180, J 181) = _; rw [e, hA 179 (by decide) (by decide), hA 180 (by decide) (by decide), hA 181 (by decide) (by decide)]
    have hshX := hPx.1
    have hfxX := hPx.2.1
    have := mp_ahead_1 (G := G) (d := 31) (sh := sh ++ X) (I := J) (F := F') (p := p) (k := k) (by first | assumption | (rw [e]; assumption) | (rw [e7]; assumption)) (by first | assumption | (rw [e]; assumption) | (rw [e7]; assumption)) (by first | assumption | (rw [e]; assumption) | (rw [e7]; assumption)) (by first | assumption | (rw [e]; assumption) | (rw [e7]; assumption)) (by first | assumption | (rw [e]; assumption) | (rw [e7]; assumption))
    (try rw [eX] at this)
    (try rw [e] at this)
    (try rw [hA 179 (by decide) (by decide), hA 180 (by decide) (by decide), hA 181 (by decide) (by decide)] at this)
    exact this
  · skip
    have gp : 0 ≤ p ∧ p < aPe w := by have := g1.1; have := g1.2; omega
    by_cases g2 : 0 ≤ k ∧ k ≤ 60
    rotate_left
    · refine PrC_x hI (c := 2) (r := 0) (cp_ahead_2 (G := G) (d := 31) (I := I) (F := F) (p := p) (k := k) (by assumption) (by assumption) (by assumption) (by assumption) (by assumption) (by assumption)) (by decide) rfl (fun X J F' hPx hA => ?_)
      have e : J 171 = w := (hA 171 (by decide) (by decide)).trans hw
      have e7 : J 170 7 = I 170 7 := by rw [hA 170 (by decide) (by decide)]
      have eX : mX J = (w, I 179, I 180, I 181) := by show (J 171, J 179, J 180, J 181) = _; rw [e, hA 179 (by decide) (by decide), hA 180 (by decide) (by decide), hA 181 (by decide) (by decide)]
      have hshX := hPx.1
      have hfxX := hPx.2.1
      have := mp_ahead_2 (G := G) (d := 31) (sh := sh ++ X) (I := J) (F := F') (p := p) (k := k) (by first | assumption | (rw [e]; assumption) | (rw [e7]; assumption)) (by first | assumption | (rw [e]; assumption) | (rw [e7]; assumption)) (by first | assumption | (rw [e]; assumption) | (rw [e7]; assumption)) (by first | assumption | (rw [e]; assumption) | (rw [e7]; assumption)) (by first | assumption | (rw [e]; assumption) | (rw [e7]; assumption)) (by first | assumption | (rw [e]; assumption) | (rw [e7]; assumption))
      (try rw [eX] at this)
      (try rw [e] at this)
      (try rw [hA 179 (by decide) (by decide), hA 180 (by decide) (by decide), hA 181 (by decide) (by decide)] at this)
      exact this
    · skip
      refine PrC_g hI (cp_ahead_0 (G := G) (d := 31) (I := I) (F := F) (p := p) (k := k) (by assumption) (by assumption) (by assumption) (by assumption) (by assumption) (by assumption) (by assumption) (by assumption) (by assumption) (I 179) (I 180) (I 181) (by assumption) (by assumption)) (fun X J F' hPx hA => ?_)
      have e : J 171 = w := (hA 171 (by decide) (by decide)).trans hw
      have e7 : J 170 7 = I 170 7 := by rw [hA 170 (by decide) (by decide)]
      have eX : mX J = (w, I 179, I 180, I 181) := by show (J 171, J 179, J 180, J 181) = _; rw [e, hA 179 (by decide) (by decide), hA 180 (by decide) (by decide), hA 181 (by decide) (by decide)]
      have hshX := hPx.1
      have hfxX := hPx.2.1
      have := mp_ahead_0 (G := G) (d := 31) (sh := sh ++ X) (I := J) (F := F') (p := p) (k := k) (by first | assumption | (rw [e]; assumption) | (rw [e7]; assumption)) (by first | assumption | (rw [e]; assumption) | (rw [e7]; assumption)) (by first | assumption | (rw [e]; assumption) | (rw [e7]; assumption)) (by first | assumption | (rw [e]; assumption) | (rw [e7]; assumption)) (by first | assumption | (rw [e]; assumption) | (rw [e7]; assumption)) (by first | assumption | (rw [e]; assumption) | (rw [e7]; assumption)) (by first | assumption | (rw [e]; assumption) | (rw [e7]; assumption))
      (try rw [eX] at this)
      (try rw [e] at this)
      (try rw [hA 179 (by decide) (by decide), hA 180 (by decide) (by decide), hA 181 (by decide) (by decide)] at this)
      exact this
theorem pr_fails (hI : INV b sh I F) (hb : 0 ≤ b ∧ b ≤ 800000000) {k : Int} (jk : jin k) : PrC G mX11_fails mX12_fails [xIae] [jI k] sh I F (b + 140000) := by
  obtain ⟨hP, hC, hM, h159⟩ := id hI
  obtain ⟨hsh, hfx, hmm, hst, h12, h22⟩ := id hP
  obtain ⟨w, hw⟩ : ∃ w, I 171 = w := ⟨_, rfl⟩
  have hS : Sr sh I F 2 w := by rw [← hw]; exact hC.1
  have hR := hS.1
  have hL := hS.2.2.2
  have hG := hS.2.1
  have hO : OKw b w := by rw [← hw]; exact hM.1
  have hW := hO.1
  have hWP : WfP w := hW.1
  have hWD := WF_D hW
  have hWB := WF_B hW
  have hWA := WF_A hW
  have hWR := WF_R hW
  have h9 : 0 ≤ w 9 ∧ w 9 ≤ 900000000 := ⟨hO.2.1.1, by have := hO.2.1.2; omega⟩
  have h90 := h9.1
  have h10 := hO.2.2.2.1
  have h7 := hM.2.2.2.1
  have g8 : 0 ≤ aPe w ∧ aPe w ≤ 8 := hW.1
  by_cases g1 : 0 ≤ k ∧ k ≤ 60
  rotate_left
  · refine PrC_x hI (c := 1) (r := 0) (cp_fails_1 (G := G) (d := 31) (I := I) (F := F) (k := k) (by assumption) (by assumption) (by assumption) (by assumption)) (by decide) rfl (fun X J F' hPx hA => ?_)
    have e : J 171 = w := (hA 171 (by decide) (by decide)).trans hw
    have e7 : J 170 7 = I 170 7 := by rw [hA 170 (by decide) (by decide)]
    have eX : mX J = (w, I 179, I 180, I 181) := by show (J 171, J 179, J 180, J 181) = _; rw [e, hA 179 (by decide) (by decide), hA 180 (by decide) (by decide), hA 181 (by decide) (by decide)]
    have hshX := hPx.1
    have hfxX := hPx.2.1
    have := mp_fails_1 (G := G) (d := 31) (sh := sh ++ X) (I := J) (F := F') (k := k) (by first | assumption | (rw [e]; assumption) | (rw [e7]; assumption)) (by first | assumption | (rw [e]; assumption) | (rw [e7]; assumption)) (by first | assumption | (rw [e]; assumption) | (rw [e7]; assumption)) (by first | assumption | (rw [e]; assumption) | (rw [e7]; assumption))
    (try rw [eX] at this)
    (try rw [e] at this)
    (try rw [hA 179 (by decide) (by decide), hA 180 (by decide) (by decide), hA 181 (by decide) (by decide)] at this)
    exact this
  · skip
    refine PrC_g hI (cp_fails_0 (G := G) (d := 31) (I := I) (F := F) (k := k) (by assumption) (by assumption) (by assumption) (by assumption) (by assumption) (by assumption) (by assumption) (by assumption) (by assumption) (I 179) (I 180) (I 181) (by assumption)) (fun X J F' hPx hA => ?_)
    have e : J 171 = w := (hA 171 (by decide) (by decide)).trans hw
    have e7 : J 170 7 = I 170 7 := by rw [hA 170 (by decide) (by decide)]
    have eX : mX J = (w, I 179, I 180, I 181) := by show (J 171, J 179, J 180, J 181) = _; rw [e, hA 179 (by decide) (by decide), hA 180 (by decide) (by decide), hA 181 (by decide) (by decide)]
    have hshX := hPx.1
    have hfxX := hPx.2.1
    have := mp_fails_0 (G := G) (d := 31) (sh := sh ++ X) (I := J) (F := F') (k := k) (by first | assumption | (rw [e]; assumption) | (rw [e7]; assumption)) (by first | assumption | (rw [e]; assumption) | (rw [e7]; assumption)) (by first | assumption | (rw [e]; assumption) | (rw [e7]; assumption)) (by first | assumption | (rw [e]; assumption) | (rw [e7]; assumption)) (by first | assumption | (rw [e]; assumption) | (rw [e7]; assumption)) (by first | assumption | (rw [e]; assumption) | (rw [e7]; assumption))
    (try rw [eX] at this)
    (try rw [e] at this)
    (try rw [hA 179 (by decide) (by decide), hA 180 (by decide) (by decide), hA 181 (by decide) (by decide)] at this)
    exact this
theorem pr_first (hI : INV b sh I F) (hb : 0 ≤ b ∧ b ≤ 800000000) {t : Int} (zt : t = 0 ∨ t = 1) : PrC G mX11_first mX12_first [] [jI t] sh I F (b + 140000) := by
  obtain ⟨hP, hC, hM, h159⟩ := id hI
  obtain ⟨hsh, hfx, hmm, hst, h12, h22⟩ := id hP
  obtain ⟨w, hw⟩ : ∃ w, I 171 = w := ⟨_, rfl⟩
  have hS : Sr sh I F 2 w := by rw [← hw]; exact hC.1
  have hR := hS.1
  have hL := hS.2.2.2
  have hG := hS.2.1
  have hO : OKw b w := by rw [← hw]; exact hM.1
  have hW := hO.1
  have hWP : WfP w := hW.1
  have hWD := WF_D hW
  have hWB := WF_B hW
  have hWA := WF_A hW
  have hWR := WF_R hW
  have h9 : 0 ≤ w 9 ∧ w 9 ≤ 900000000 := ⟨hO.2.1.1, by have := hO.2.1.2; omega⟩
  have h90 := h9.1
  have h10 := hO.2.2.2.1
  have h7 := hM.2.2.2.1
  have g8 : 0 ≤ aPe w ∧ aPe w ≤ 8 := hW.1
  refine PrC_g hI (cp_first (G := G) (d := 31) (I := I) (F := F) (b := t) (by assumption) (by assumption) (by assumption) (by assumption) (by assumption) (by assumption) (by assumption) (by assumption) (by assumption) (I 179) (I 180) (I 181) (by assumption)) (fun X J F' hPx hA => ?_)
  have e : J 171 = w := (hA 171 (by decide) (by decide)).trans hw
  have e7 : J 170 7 = I 170 7 := by rw [hA 170 (by decide) (by decide)]
  have eX : mX J = (w, I 179, I 180, I 181) := by show (J 171, J 179, J 180, J 181) = _; rw [e, hA 179 (by decide) (by decide), hA 180 (by decide) (by decide), hA 181 (by decide) (by decide)]
  have hshX := hPx.1
  have hfxX := hPx.2.1
  have := mp_first (G := G) (d := 32) (sh := sh ++ X) (I := J) (F := F') (b := t) (by first | assumption | (rw [e]; assumption) | (rw [e7]; assumption)) (by first | assumption | (rw [e]; assumption) | (rw [e7]; assumption)) (by first | assumption | (rw [e]; assumption) | (rw [e7]; assumption)) (by first | assumption | (rw [e]; assumption) | (rw [e7]; assumption)) (by first | assumption | (rw [e]; assumption) | (rw [e7]; assumption)) (by first | assumption | (rw [e]; assumption) | (rw [e7]; assumption))
  (try rw [eX] at this)
  (try rw [e] at this)
  (try rw [hA 179 (by decide) (by decide), hA 180 (by decide) (by decide), hA 181 (by decide) (by decide)] at this)
  exact this
theorem pr_plan (hI : INV b sh I F) (hb : 0 ≤ b ∧ b ≤ 800000000) {p n k : Int} (jp : jin p) (jn : jin n) (jk : jin k) : PrC G mX11_plan mX12_plan [xIob, xIae] [jI p, jI n, jI k] sh I F (b + 140000) := by
  obtain ⟨hP, hC, hM, h159⟩ := id hI
  obtain ⟨hsh, hfx, hmm, hst, h12, h22⟩ := id hP
  obtain ⟨w, hw⟩ : ∃ w, I 171 = w := ⟨_, rfl⟩
  have hS : Sr sh I F 2 w := by rw [← hw]; exact hC.1
  have hR := hS.1
  have hL := hS.2.2.2
  have hG := hS.2.1
  have hO : OKw b w := by rw [← hw]; exact hM.1
  have hW := hO.1
  have hWP : WfP w := hW.1
  have hWD := WF_D hW
  have hWB := WF_B hW
  have hWA := WF_A hW
  have hWR := WF_R hW
  have h9 : 0 ≤ w 9 ∧ w 9 ≤ 900000000 := ⟨hO.2.1.1, by have := hO.2.1.2; omega⟩
  have h90 := h9.1
  have h10 := hO.2.2.2.1
  have h7 := hM.2.2.2.1
  have g8 : 0 ≤ aPe w ∧ aPe w ≤ 8 := hW.1
  by_cases g1 : gP w p
  rotate_left
  · refine PrC_x hI (c := 1) (r := 0) (cp_plan_1 (G := G) (d := 34) (I := I) (F := F) (p := p) (n := n) (k := k) (by assumption) (by assumption) (by assumption) (by assumption) (by assumption) (by assumption) (by assumption)) (by decide) rfl (fun X J F' hPx hA => ?_)
    have e : J 171 = w := (hA 171 (by decide) (by decide)).trans hw
    have e7 : J 170 7 = I 170 7 := by rw [hA 170 (by decide) (by decide)]
    have eX : mX J = (w, I 179, I 180, I 181) := by show (J 171, J 179, J 180, J 181) = _; rw [e, hA 179 (by decide) (by decide), hA 180 (by decide) (by decide), hA 181 (by decide) (by decide)]
    have hshX := hPx.1
    have hfxX := hPx.2.1
    have := mp_plan_1 (G := G) (d := 35) (sh := sh ++ X) (I := J) (F := F') (p := p) (n := n) (k := k) (by first | assumption | (rw [e]; assumption) | (rw [e7]; assumption)) (by first | assumption | (rw [e]; assumption) | (rw [e7]; assumption)) (by first | assumption | (rw [e]; assumption) | (rw [e7]; assumption)) (by first | assumption | (rw [e]; assumption) | (rw [e7]; assumption)) (by first | assumption | (rw [e]; assumption) | (rw [e7]; assumption))
    (try rw [eX] at this)
    (try rw [e] at this)
    (try rw [hA 179 (by decide) (by decide), hA 180 (by decide) (by decide), hA 181 (by decide) (by decide)] at this)
    exact this
  · skip
    have gp : 0 ≤ p ∧ p < aPe w := by have := g1.1; have := g1.2; omega
    by_cases g2 : 1 ≤ n ∧ n ≤ 40
    rotate_left
    · refine PrC_x hI (c := 2) (r := 0) (cp_plan_2 (G := G) (d := 34) (I := I) (F := F) (p := p) (n := n) (k := k) (by assumption) (by assumption) (by assumption) (by assumption) (by assumption) (by assumption) (by assumption) (by assumption)) (by decide) rfl (fun X J F' hPx hA => ?_)
      have e : J 171 = w := (hA 171 (by decide) (by decide)).trans hw
      have e7 : J 170 7 = I 170 7 := by rw [hA 170 (by decide) (by decide)]
      have eX : mX J = (w, I 179, I 180, I 181) := by show (J 171, J 179, J 180, J 181) = _; rw [e, hA 179 (by decide) (by decide), hA 180 (by decide) (by decide), hA 181 (by decide) (by decide)]
      have hshX := hPx.1
      have hfxX := hPx.2.1
      have := mp_plan_2 (G := G) (d := 35) (sh := sh ++ X) (I := J) (F := F') (p := p) (n := n) (k := k) (by first | assumption | (rw [e]; assumption) | (rw [e7]; assumption)) (by first | assumption | (rw [e]; assumption) | (rw [e7]; assumption)) (by first | assumption | (rw [e]; assumption) | (rw [e7]; assumption)) (by first | assumption | (rw [e]; assumption) | (rw [e7]; assumption)) (by first | assumption | (rw [e]; assumption) | (rw [e7]; assumption)) (by first | assumption | (rw [e]; assumption) | (rw [e7]; assumption)) (by first | assumption | (rw [e]; assumption) | (rw [e7]; assumption))
      (try rw [eX] at this)
      (try rw [e] at this)
      (try rw [hA 179 (by decide) (by decide), hA 180 (by decide) (by decide), hA 181 (by decide) (by decide)] at this)
      exact this
    · skip
      refine PrC_q hI (cp_plan_0 (G := G) (d := 34) (I := I) (F := F) (p := p) (n := n) (k := k) (by assumption) (by assumption) (by assumption) (by assumption) (by assumption) (by assumption) (by assumption) (by assumption)) (fun X J F' hPx hA => ?_)
      have e : J 171 = w := (hA 171 (by decide) (by decide)).trans hw
      have e7 : J 170 7 = I 170 7 := by rw [hA 170 (by decide) (by decide)]
      have eX : mX J = (w, I 179, I 180, I 181) := by show (J 171, J 179, J 180, J 181) = _; rw [e, hA 179 (by decide) (by decide), hA 180 (by decide) (by decide), hA 181 (by decide) (by decide)]
      have hshX := hPx.1
      have hfxX := hPx.2.1
      have := mp_plan_0 (G := G) (d := 35) (sh := sh ++ X) (I := J) (F := F') (p := p) (n := n) (k := k) (by first | assumption | (rw [e]; assumption) | (rw [e7]; assumption)) (by first | assumption | (rw [e]; assumption) | (rw [e7]; assumption)) (by first | assumption | (rw [e]; assumption) | (rw [e7]; assumption)) (by first | assumption | (rw [e]; assumption) | (rw [e7]; assumption)) (by first | assumption | (rw [e]; assumption) | (rw [e7]; assumption)) (by first | assumption | (rw [e]; assumption) | (rw [e7]; assumption)) (by first | assumption | (rw [e]; assumption) | (rw [e7]; assumption)) (by first | assumption | (rw [e]; assumption) | (rw [e7]; assumption)) (by first | assumption | (rw [e]; assumption) | (rw [e7]; assumption)) (by first | assumption | (rw [e]; assumption) | (rw [e7]; assumption)) (by first | assumption | (rw [e]; assumption) | (rw [e7]; assumption))
      (try rw [eX] at this)
      (try rw [e] at this)
      (try rw [hA 179 (by decide) (by decide), hA 180 (by decide) (by decide), hA 181 (by decide) (by decide)] at this)
      exact this
theorem pr_cost (hI : INV b sh I F) (hb : 0 ≤ b ∧ b ≤ 800000000) {p n : Int} (jp : jin p) (jn : jin n) : PrC G mX11_cost mX12_cost [xIob, xIae] [jI p, jI n] sh I F (b + 140000) := by
  obtain ⟨hP, hC, hM, h159⟩ := id hI
  obtain ⟨hsh, hfx, hmm, hst, h12, h22⟩ := id hP
  obtain ⟨w, hw⟩ : ∃ w, I 171 = w := ⟨_, rfl⟩
  have hS : Sr sh I F 2 w := by rw [← hw]; exact hC.1
  have hR := hS.1
  have hL := hS.2.2.2
  have hG := hS.2.1
  have hO : OKw b w := by rw [← hw]; exact hM.1
  have hW := hO.1
  have hWP : WfP w := hW.1
  have hWD := WF_D hW
  have hWB := WF_B hW
  have hWA := WF_A hW
  have hWR := WF_R hW
  have h9 : 0 ≤ w 9 ∧ w 9 ≤ 900000000 := ⟨hO.2.1.1, by have := hO.2.1.2; omega⟩
  have h90 := h9.1
  have h10 := hO.2.2.2.1
  have h7 := hM.2.2.2.1
  have g8 : 0 ≤ aPe w ∧ aPe w ≤ 8 := hW.1
  by_cases g1 : gP w p
  rotate_left
  · refine PrC_x hI (c := 1) (r := 0) (cp_cost_1 (G := G) (d := 34) (I := I) (F := F) (p := p) (n := n) (by assumption) (by assumption) (by assumption) (by assumption) (by assumption) (by assumption) (by assumption)) (by decide) rfl (fun X J F' hPx hA => ?_)
    have e : J 171 = w := (hA 171 (by decide) (by decide)).trans hw
    have e7 : J 170 7 = I 170 7 := by rw [hA 170 (by decide) (by decide)]
    have eX : mX J = (w, I 179, I 180, I 181) := by show (J 171, J 179, J 180, J 181) = _; rw [e, hA 179 (by decide) (by decide), hA 180 (by decide) (by decide), hA 181 (by decide) (by decide)]
    have hshX := hPx.1
    have hfxX := hPx.2.1
    have := mp_cost_1 (G := G) (d := 34) (sh := sh ++ X) (I := J) (F := F') (p := p) (n := n) (by first | assumption | (rw [e]; assumption) | (rw [e7]; assumption)) (by first | assumption | (rw [e]; assumption) | (rw [e7]; assumption)) (by first | assumption | (rw [e]; assumption) | (rw [e7]; assumption)) (by first | assumption | (rw [e]; assumption) | (rw [e7]; assumption)) (by first | assumption | (rw [e]; assumption) | (rw [e7]; assumption))
    (try rw [eX] at this)
    (try rw [e] at this)
    (try rw [hA 179 (by decide) (by decide), hA 180 (by decide) (by decide), hA 181 (by decide) (by decide)] at this)
    exact this
  · skip
    have gp : 0 ≤ p ∧ p < aPe w := by have := g1.1; have := g1.2; omega
    by_cases g2 : 0 ≤ n ∧ n ≤ 60
    rotate_left
    · refine PrC_x hI (c := 2) (r := 0) (cp_cost_2 (G := G) (d := 34) (I := I) (F := F) (p := p) (n := n) (by assumption) (by assumption) (by assumption) (by assumption) (by assumption) (by assumption) (by assumption) (by assumption)) (by decide) rfl (fun X J F' hPx hA => ?_)
      have e : J 171 = w := (hA 171 (by decide) (by decide)).trans hw
      have e7 : J 170 7 = I 170 7 := by rw [hA 170 (by decide) (by decide)]
      have eX : mX J = (w, I 179, I 180, I 181) := by show (J 171, J 179, J 180, J 181) = _; rw [e, hA 179 (by decide) (by decide), hA 180 (by decide) (by decide), hA 181 (by decide) (by decide)]
      have hshX := hPx.1
      have hfxX := hPx.2.1
      have := mp_cost_2 (G := G) (d := 34) (sh := sh ++ X) (I := J) (F := F') (p := p) (n := n) (by first | assumption | (rw [e]; assumption) | (rw [e7]; assumption)) (by first | assumption | (rw [e]; assumption) | (rw [e7]; assumption)) (by first | assumption | (rw [e]; assumption) | (rw [e7]; assumption)) (by first | assumption | (rw [e]; assumption) | (rw [e7]; assumption)) (by first | assumption | (rw [e]; assumption) | (rw [e7]; assumption)) (by first | assumption | (rw [e]; assumption) | (rw [e7]; assumption))
      (try rw [eX] at this)
      (try rw [e] at this)
      (try rw [hA 179 (by decide) (by decide), hA 180 (by decide) (by decide), hA 181 (by decide) (by decide)] at this)
      exact this
    · skip
      refine PrC_q hI (cp_cost_0 (G := G) (d := 34) (I := I) (F := F) (p := p) (n := n) (by assumption) (by assumption) (by assumption) (by assumption) (by assumption) (by assumption) (by assumption)) (fun X J F' hPx hA => ?_)
      have e : J 171 = w := (hA 171 (by decide) (by decide)).trans hw
      have e7 : J 170 7 = I 170 7 := by rw [hA 170 (by decide) (by decide)]
      have eX : mX J = (w, I 179, I 180, I 181) := by show (J 171, J 179, J 180, J 181) = _; rw [e, hA 179 (by decide) (by decide), hA 180 (by decide) (by decide), hA 181 (by decide) (by decide)]
      have hshX := hPx.1
      have hfxX := hPx.2.1
      have := mp_cost_0 (G := G) (d := 37) (sh := sh ++ X) (I := J) (F := F') (p := p) (n := n) (by first | assumption | (rw [e]; assumption) | (rw [e7]; assumption)) (by first | assumption | (rw [e]; assumption) | (rw [e7]; assumption)) (by first | assumption | (rw [e]; assumption) | (rw [e7]; assumption)) (by first | assumption | (rw [e]; assumption) | (rw [e7]; assumption)) (by first | assumption | (rw [e]; assumption) | (rw [e7]; assumption)) (by first | assumption | (rw [e]; assumption) | (rw [e7]; assumption)) (by first | assumption | (rw [e]; assumption) | (rw [e7]; assumption)) (by first | assumption | (rw [e]; assumption) | (rw [e7]; assumption)) (by first | assumption | (rw [e]; assumption) | (rw [e7]; assumption))
      (try rw [eX] at this)
      (try rw [e] at this)
      (try rw [hA 179 (by decide) (by decide), hA 180 (by decide) (by decide), hA 181 (by decide) (by decide)] at this)
      exact this
theorem pr_ring (hI : INV b sh I F) (hb : 0 ≤ b ∧ b ≤ 800000000) {p : Int} (jp : jin p) : PrC G mX11_ring mX12_ring [xIob] [jI p] sh I F (b + 140000) := by
  obtain ⟨hP, hC, hM, h159⟩ := id hI
  obtain ⟨hsh, hfx, hmm, hst, h12, h22⟩ := id hP
  obtain ⟨w, hw⟩ : ∃ w, I 171 = w := ⟨_, rfl⟩
  have hS : Sr sh I F 2 w := by rw [← hw]; exact hC.1
  have hR := hS.1
  have hL := hS.2.2.2
  have hG := hS.2.1
  have hO : OKw b w := by rw [← hw]; exact hM.1
  have hW := hO.1
  have hWP : WfP w := hW.1
  have hWD := WF_D hW
  have hWB := WF_B hW
  have hWA := WF_A hW
  have hWR := WF_R hW
  have h9 : 0 ≤ w 9 ∧ w 9 ≤ 900000000 := ⟨hO.2.1.1, by have := hO.2.1.2; omega⟩
  have h90 := h9.1
  have h10 := hO.2.2.2.1
  have h7 := hM.2.2.2.1
  have g8 : 0 ≤ aPe w ∧ aPe w ≤ 8 := hW.1
  by_cases g1 : gP w p
  rotate_left
  · refine PrC_x hI (c := 1) (r := 0) (cp_ring_1 (G := G) (d := 34) (I := I) (F := F) (p := p) (by assumption) (by assumption) (by assumption) (by assumption) (by assumption) (by assumption) (by assumption)) (by decide) rfl (fun X J F' hPx hA => ?_)
    have e : J 171 = w := (hA 171 (by decide) (by decide)).trans hw
    have e7 : J 170 7 = I 170 7 := by rw [hA 170 (by decide) (by decide)]
    have eX : mX J = (w, I 179, I 180, I 181) := by show (J 171, J 179, J 180, J 181) = _; rw [e, hA 179 (by decide) (by decide), hA 180 (by decide) (by decide), hA 181 (by decide) (by decide)]
    have hshX := hPx.1
    have hfxX := hPx.2.1
    have := mp_ring_1 (G := G) (d := 37) (sh := sh ++ X) (I := J) (F := F') (p := p) (by first | assumption | (rw [e]; assumption) | (rw [e7]; assumption)) (by first | assumption | (rw [e]; assumption) | (rw [e7]; assumption)) (by first | assumption | (rw [e]; assumption) | (rw [e7]; assumption)) (by first | assumption | (rw [e]; assumption) | (rw [e7]; assumption)) (by first | assumption | (rw [e]; assumption) | (rw [e7]; assumption))
    (try rw [eX] at this)
    (try rw [e] at this)
    (try rw [hA 179 (by decide) (by decide), hA 180 (by decide) (by decide), hA 181 (by decide) (by decide)] at this)
    exact this
  · skip
    have gp : 0 ≤ p ∧ p < aPe w := by have := g1.1; have := g1.2; omega
    refine PrC_q hI (cp_ring_0 (G := G) (d := 38) (I := I) (F := F) (p := p) (by assumption) (by assumption) (by assumption) (by assumption) (by assumption) (by assumption)) (fun X J F' hPx hA => ?_)
    have e : J 171 = w := (hA 171 (by decide) (by decide)).trans hw
    have e7 : J 170 7 = I 170 7 := by rw [hA 170 (by decide) (by decide)]
    have eX : mX J = (w, I 179, I 180, I 181) := by show (J 171, J 179, J 180, J 181) = _; rw [e, hA 179 (by decide) (by decide), hA 180 (by decide) (by decide), hA 181 (by decide) (by decide)]
    have hshX := hPx.1
    have hfxX := hPx.2.1
    have := mp_ring_0 (G := G) (d := 37) (sh := sh ++ X) (I := J) (F := F') (p := p) (by first | assumption | (rw [e]; assumption) | (rw [e7]; assumption)) (by first | assumption | (rw [e]; assumption) | (rw [e7]; assumption)) (by first | assumption | (rw [e]; assumption) | (rw [e7]; assumption)) (by first | assumption | (rw [e]; assumption) | (rw [e7]; assumption)) (by first | assumption | (rw [e]; assumption) | (rw [e7]; assumption))
    (try rw [eX] at this)
    (try rw [e] at this)
    (try rw [hA 179 (by decide) (by decide), hA 180 (by decide) (by decide), hA 181 (by decide) (by decide)] at this)
    exact this
end
