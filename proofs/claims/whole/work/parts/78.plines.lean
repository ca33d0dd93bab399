/-! THE LINES OF A LAW -/
/-- a line in the draft -/
def dLn (w : Int → Int) (j m : Int) : Prop := (0 ≤ w (1270 + 4 * j + 2) ∧ w (1270 + 4 * j + 2) ≤ w (1270 + 4 * j + 3) ∧ w (1270 + 4 * j + 3) ≤ m) ∧ (w (1270 + 4 * j) = 0 ∨ w (1270 + 4 * j) = 1) ∧ (0 ≤ w (1270 + 4 * j + 1) ∧ w (1270 + 4 * j + 1) ≤ 99) ∧
  (∃ T, tRun (dStp w) (w (1270 + 4 * j + 2)) (w (1270 + 4 * j + 3) - w (1270 + 4 * j + 2)).toNat [] T ∧ (T = [] ∨ T = [true])) ∧ ∀ i, w (1270 + 4 * j + 2) ≤ i → i < w (1270 + 4 * j + 3) → dStp w i = 7 → 0 ≤ dArg w i ∧ dArg w i ≤ 999
theorem dLn_cong {w v : Int → Int} {j m m' : Int} (h : dLn w j m) (hm : m ≤ m') (h1 : ∀ k, 1270 + 4 * j ≤ k → k < 1270 + 4 * j + 4 → v k = w k) (h2 : ∀ k, 1318 ≤ k → k < 1318 + 2 * m → v k = w k) : dLn v j m' := by
  obtain ⟨⟨a1, a2, a3⟩, b, c, ⟨T, d1, d2⟩, e⟩ := h
  have e0 := h1 (1270 + 4 * j) (by omega) (by omega)
  have e1 := h1 (1270 + 4 * j + 1) (by omega) (by omega)
  have e2 := h1 (1270 + 4 * j + 2) (by omega) (by omega)
  have e3 := h1 (1270 + 4 * j + 3) (by omega) (by omega)
  unfold dLn
  rw [e0, e1, e2, e3]
  refine ⟨⟨a1, a2, by omega⟩, b, c, ⟨T, tRun_cg (fun i i0 i1 => h2 _ (by omega) (by omega)) d1, d2⟩, fun i i0 i1 hi => ?_⟩
  have es : dStp v i = dStp w i := h2 _ (by omega) (by omega)
  have ea : dArg v i = dArg w i := h2 _ (by omega) (by omega)
  rw [ea]
  exact e i i0 i1 (by rw [← es]; exact hi)
theorem pHd_o {w : Int → Int} {z put a m k : Int} (h : k < 1270 + 4 * z ∨ 1270 + 4 * z + 3 ≤ k) : pHd w z put a m k = w k := by unfold pHd; rw [wup_ne _ _ (by omega), wup_ne _ _ (by omega), wup_ne _ _ (by omega)]
theorem pHd_0 {w : Int → Int} {z put a m : Int} : pHd w z put a m (1270 + 4 * z) = put := by unfold pHd; rw [wup_ne _ _ (by omega), wup_ne _ _ (by omega), wup_same]
theorem pHd_1 {w : Int → Int} {z put a m : Int} : pHd w z put a m (1270 + 4 * z + 1) = a := by unfold pHd; rw [wup_ne _ _ (by omega), wup_same]
theorem pHd_2 {w : Int → Int} {z put a m : Int} : pHd w z put a m (1270 + 4 * z + 2) = m := by unfold pHd; rw [wup_same]
/-- what a line leaves -/
def lGd (n z q m : Int) (w : Int → Int) (R : pR) : Prop :=
  (R.1 = 0 ∧ q ≤ R.2.1 ∧ R.2.1 ≤ n) ∨ (R.1 = 1 ∧ q + 2 ≤ R.2.1 ∧ R.2.1 ≤ n ∧ m ≤ R.2.2.1 ∧ R.2.2.1 - m + 2 ≤ R.2.1 - q ∧ (∀ k, (k < 1270 + 4 * z ∨ (1270 + 4 * z + 4 ≤ k ∧ k < 1318 + 2 * m) ∨ 1318 + 2 * R.2.2.1 ≤ k) → R.2.2.2 k = w k) ∧ dLn R.2.2.2 z R.2.2.1 ∧ R.2.2.2 (1270 + 4 * z + 2) = m ∧ R.2.2.2 (1270 + 4 * z + 3) = R.2.2.1)
section
variable {B : Int → Int} {n q : Int}
theorem pLine_g {z m : Int} {w : Int → Int} (hq : q ≤ n) (hz : 0 ≤ z ∧ z < 12) (hm : 0 ≤ m) : lGd n z q m w (pLine B n z q m w) := by
  unfold pLine
  by_cases e : vWd B n q 16 ∨ vWd B n q 15
  · rw [if_pos e]
    have t1 : q + 1 ≤ tkN B n q ∧ tkN B n q ≤ n := by
      rcases e with e | e <;> exact wd_s hq e
    by_cases e2 : vNm B n (tkN B n q) 3 0 99
    · rw [if_pos e2]
      have t2 := nm_s t1.2 e2
      have hx := tV_in e2
      have hp : pPut B n q = 0 ∨ pPut B n q = 1 := by unfold pPut; split <;> simp
      generalize pPut B n q = put at *
      generalize tV B n (tkN B n q) = a at *
      by_cases e3 : vWd B n (tkN B n (tkN B n q)) 17
      · rw [if_pos e3]
        have t3 := wd_s t2.2 e3
        have hg := pCond_g (B := B) (pAtom_g (B := B) (n := n) 6) (m := m) (w := pHd w z put a m) t3.2
        generalize pCond B n (pAtom B n 6) (tkN B n (tkN B n (tkN B n q))) m (pHd w z put a m) = R at *
        rcases hg with g | ⟨g1, g2, g3, g4, g5, g6, g7, g8⟩
        · rw [pThen_f g.1]; exact Or.inl ⟨g.1, by omega, g.2.2⟩
        · rw [pThen_t g1]
          have f3 : wup R.2.2.2 (1270 + 4 * z + 3) R.2.2.1 (1270 + 4 * z + 3) = R.2.2.1 := wup_same _ _ _
          have f2 : wup R.2.2.2 (1270 + 4 * z + 3) R.2.2.1 (1270 + 4 * z + 2) = m := by rw [wup_ne _ _ (by omega), g6 _ (by omega), pHd_2]
          have f1 : wup R.2.2.2 (1270 + 4 * z + 3) R.2.2.1 (1270 + 4 * z + 1) = a := by rw [wup_ne _ _ (by omega), g6 _ (by omega), pHd_1]
          have f0 : wup R.2.2.2 (1270 + 4 * z + 3) R.2.2.1 (1270 + 4 * z) = put := by rw [wup_ne _ _ (by omega), g6 _ (by omega), pHd_0]
          have fs : ∀ k, 1318 ≤ k → wup R.2.2.2 (1270 + 4 * z + 3) R.2.2.1 k = R.2.2.2 k := fun k hk => wup_ne _ _ (by omega)
          refine Or.inr ⟨rfl, by show q + 2 ≤ R.2.1; omega, g3, g4, by show R.2.2.1 - m + 2 ≤ R.2.1 - q; omega, fun k hk => ?_, ⟨⟨?_, ?_, ?_⟩, ?_, ?_, ⟨[true], ?_, Or.inr rfl⟩, fun i i0 i1 hi => ?_⟩, f2, f3⟩
          · show wup R.2.2.2 (1270 + 4 * z + 3) R.2.2.1 k = w k
            have hk' : k < 1270 + 4 * z ∨ (1270 + 4 * z + 4 ≤ k ∧ k < 1318 + 2 * m) ∨ 1318 + 2 * R.2.2.1 ≤ k := hk
            rw [wup_ne _ _ (by omega), g6 k (by omega), pHd_o (by omega)]
          · show 0 ≤ wup R.2.2.2 (1270 + 4 * z + 3) R.2.2.1 (1270 + 4 * z + 2)
            rw [f2]; exact hm
          · show wup R.2.2.2 (1270 + 4 * z + 3) R.2.2.1 (1270 + 4 * z + 2) ≤ wup R.2.2.2 (1270 + 4 * z + 3) R.2.2.1 (1270 + 4 * z + 3)
            rw [f2, f3]; exact g4
          · show wup R.2.2.2 (1270 + 4 * z + 3) R.2.2.1 (1270 + 4 * z + 3) ≤ R.2.2.1
            rw [f3]; exact Int.le_refl _
          · show wup R.2.2.2 (1270 + 4 * z + 3) R.2.2.1 (1270 + 4 * z) = 0 ∨ wup R.2.2.2 (1270 + 4 * z + 3) R.2.2.1 (1270 + 4 * z) = 1
            rw [f0]; exact hp
          · show 0 ≤ wup R.2.2.2 (1270 + 4 * z + 3) R.2.2.1 (1270 + 4 * z + 1) ∧ wup R.2.2.2 (1270 + 4 * z + 3) R.2.2.1 (1270 + 4 * z + 1) ≤ 99
            rw [f1]; exact hx
          · show tRun (dStp (wup R.2.2.2 (1270 + 4 * z + 3) R.2.2.1)) (wup R.2.2.2 (1270 + 4 * z + 3) R.2.2.1 (1270 + 4 * z + 2)) (wup R.2.2.2 (1270 + 4 * z + 3) R.2.2.1 (1270 + 4 * z + 3) - wup R.2.2.2 (1270 + 4 * z + 3) R.2.2.1 (1270 + 4 * z + 2)).toNat [] [true]
            rw [f2, f3]
            exact tRun_cg (fun i i0 i1 => fs _ (by omega)) (g8 [] (by decide))
          · have i0' : wup R.2.2.2 (1270 + 4 * z + 3) R.2.2.1 (1270 + 4 * z + 2) ≤ i := i0
            have i1' : i < wup R.2.2.2 (1270 + 4 * z + 3) R.2.2.1 (1270 + 4 * z + 3) := i1
            rw [f2] at i0'
            rw [f3] at i1'
            have hi' : wup R.2.2.2 (1270 + 4 * z + 3) R.2.2.1 (1318 + 2 * i) = 7 := hi
            rw [fs _ (by omega)] at hi'
            show 0 ≤ wup R.2.2.2 (1270 + 4 * z + 3) R.2.2.1 (1318 + 2 * i + 1) ∧ wup R.2.2.2 (1270 + 4 * z + 3) R.2.2.1 (1318 + 2 * i + 1) ≤ 999
            rw [fs _ (by omega)]
            exact g7 i i0' i1' hi'
      · rw [if_neg e3]
        have f3 : wup (pHd w z put a m) (1270 + 4 * z + 3) m (1270 + 4 * z + 3) = m := wup_same _ _ _
        have f2 : wup (pHd w z put a m) (1270 + 4 * z + 3) m (1270 + 4 * z + 2) = m := by rw [wup_ne _ _ (by omega), pHd_2]
        have f1 : wup (pHd w z put a m) (1270 + 4 * z + 3) m (1270 + 4 * z + 1) = a := by rw [wup_ne _ _ (by omega), pHd_1]
        have f0 : wup (pHd w z put a m) (1270 + 4 * z + 3) m (1270 + 4 * z) = put := by rw [wup_ne _ _ (by omega), pHd_0]
        refine Or.inr ⟨rfl, by show q + 2 ≤ tkN B n (tkN B n q); omega, t2.2, Int.le_refl _, by show m - m + 2 ≤ tkN B n (tkN B n q) - q; omega, fun k hk => ?_, ⟨⟨?_, ?_, ?_⟩, ?_, ?_, ⟨[], ?_, Or.inl rfl⟩, fun i i0 i1 hi => ?_⟩, f2, f3⟩
        · show wup (pHd w z put a m) (1270 + 4 * z + 3) m k = w k
          have hk' : k < 1270 + 4 * z ∨ (1270 + 4 * z + 4 ≤ k ∧ k < 1318 + 2 * m) ∨ 1318 + 2 * m ≤ k := hk
          rw [wup_ne _ _ (by omega), pHd_o (by omega)]
        · show 0 ≤ wup (pHd w z put a m) (1270 + 4 * z + 3) m (1270 + 4 * z + 2)
          rw [f2]; exact hm
        · show wup (pHd w z put a m) (1270 + 4 * z + 3) m (1270 + 4 * z + 2) ≤ wup (pHd w z put a m) (1270 + 4 * z + 3) m (1270 + 4 * z + 3)
          rw [f2, f3]; exact Int.le_refl _
        · show wup (pHd w z put a m) (1270 + 4 * z + 3) m (1270 + 4 * z + 3) ≤ m
          rw [f3]; exact Int.le_refl _
        · show wup (pHd w z put a m) (1270 + 4 * z + 3) m (1270 + 4 * z) = 0 ∨ wup (pHd w z put a m) (1270 + 4 * z + 3) m (1270 + 4 * z) = 1
          rw [f0]; exact hp
        · show 0 ≤ wup (pHd w z put a m) (1270 + 4 * z + 3) m (1270 + 4 * z + 1) ∧ wup (pHd w z put a m) (1270 + 4 * z + 3) m (1270 + 4 * z + 1) ≤ 99
          rw [f1]; exact hx
        · show tRun (dStp (wup (pHd w z put a m) (1270 + 4 * z + 3) m)) (wup (pHd w z put a m) (1270 + 4 * z + 3) m (1270 + 4 * z + 2)) (wup (pHd w z put a m) (1270 + 4 * z + 3) m (1270 + 4 * z + 3) - wup (pHd w z put a m) (1270 + 4 * z + 3) m (1270 + 4 * z + 2)).toNat [] []
          rw [f2, f3, show (m - m).toNat = 0 by omega]
          rfl
        · have i0' : wup (pHd w z put a m) (1270 + 4 * z + 3) m (1270 + 4 * z + 2) ≤ i := i0
          have i1' : i < wup (pHd w z put a m) (1270 + 4 * z + 3) m (1270 + 4 * z + 3) := i1
          rw [f2] at i0'
          rw [f3] at i1'
          omega
    · rw [if_neg e2]; exact Or.inl ⟨rfl, by show q ≤ tkN B n q; omega, t1.2⟩
  · rw [if_neg e]; exact Or.inl ⟨rfl, Int.le_refl _, hq⟩
/-- what all lines leave -/
theorem pLns_g : ∀ (k : Nat) {z q m : Int} {w : Int → Int}, q ≤ n → 0 ≤ z → z + k = 12 → 0 ≤ m → m ≤ q → (∀ j, 0 ≤ j → j < z → dLn w j m) →
    ((pLns B n k z q m w).1 = -1 ∨ (1 ≤ (pLns B n k z q m w).1 ∧ (pLns B n k z q m w).1 ≤ 12 ∧ (0 ≤ (pLns B n k z q m w).2.2.1 ∧ (pLns B n k z q m w).2.2.1 + 2 ≤ n) ∧ (∀ j, 0 ≤ j → j < (pLns B n k z q m w).1 → dLn (pLns B n k z q m w).2.2.2 j (pLns B n k z q m w).2.2.1) ∧ ∀ i, i < 1270 → (pLns B n k z q m w).2.2.2 i = w i)) ∧ (q ≤ (pLns B n k z q m w).2.1 ∧ (pLns B n k z q m w).2.1 ≤ n)
  | 0, z, q, m, w, hq, _, _, _, _, _ => ⟨Or.inl rfl, Int.le_refl _, hq⟩
  | k + 1, z, q, m, w, hq, hz0, hz, hm, hmq, hd => by
    have hg := pLine_g (B := B) (z := z) (m := m) (w := w) hq (by omega) hm
    unfold pLns
    generalize pLine B n z q m w = R at *
    rcases hg with g | ⟨g1, g2, g3, g4, g5, g6, g7, g8, g9⟩
    · rw [if_pos g.1]; exact ⟨Or.inl rfl, g.2⟩
    · rw [if_neg (by omega)]
      have hd2 : ∀ j, 0 ≤ j → j < z + 1 → dLn R.2.2.2 j R.2.2.1 := fun j j0 j1 => by
        by_cases c : j = z
        · subst c; exact g7
        · exact dLn_cong (hd j j0 (by omega)) g4 (fun k k0 k1 => g6 k (by omega)) (fun k k0 k1 => g6 k (by omega))
      by_cases e : tkK B n R.2.1 = 0
      · rw [if_pos e]
        exact ⟨Or.inr ⟨by show 1 ≤ z + 1; omega, by show z + 1 ≤ 12; omega, ⟨by show 0 ≤ R.2.2.1; omega, by show R.2.2.1 + 2 ≤ n; omega⟩, hd2, fun i hi => g6 i (by omega)⟩, by show q ≤ R.2.1; omega, g3⟩
      · rw [if_neg e]
        by_cases e2 : vSg B n R.2.1 59
        · rw [if_pos e2]
          have ht := sg_s g3 e2
          obtain ⟨i1, i2, i3⟩ := pLns_g k (z := z + 1) (m := R.2.2.1) (w := R.2.2.2) ht.2 (by omega) (by omega) (by omega) (by omega) hd2
          refine ⟨?_, by omega, i3⟩
          rcases i1 with i1 | ⟨j1, j2, j3, j4, j5⟩
          · exact Or.inl i1
          · exact Or.inr ⟨j1, j2, j3, j4, fun i hi => by rw [j5 i hi]; exact g6 i (by omega)⟩
        · rw [if_neg e2]; exact ⟨Or.inl rfl, by show q ≤ R.2.1; omega, g3⟩
theorem pTxt_g {w : Int → Int} (hq : 0 ≤ q ∧ q ≤ n) (hn : n ≤ 400) : ((pTxt B n q w).1 = -1 ∨ (0 ≤ (pTxt B n q w).1 ∧ (pTxt B n q w).1 ≤ 12 ∧ (0 ≤ (pTxt B n q w).2.2.1 ∧ (pTxt B n q w).2.2.1 ≤ 398) ∧ (∀ j, 0 ≤ j → j < (pTxt B n q w).1 → dLn (pTxt B n q w).2.2.2 j (pTxt B n q w).2.2.1) ∧ ∀ i, i < 1270 → (pTxt B n q w).2.2.2 i = w i)) ∧ (q ≤ (pTxt B n q w).2.1 ∧ (pTxt B n q w).2.1 ≤ n) := by
  unfold pTxt
  by_cases e : tkK B n q = 0
  · rw [if_pos e]
    exact ⟨Or.inr ⟨Int.le_refl _, by show (0 : Int) ≤ 12; decide, ⟨Int.le_refl _, by show (0 : Int) ≤ 398; decide⟩, fun j j0 j1 => by have h2 : j < 0 := j1; omega, fun _ _ => rfl⟩, Int.le_refl _, hq.2⟩
  · rw [if_neg e]
    obtain ⟨i1, i2⟩ := pLns_g (B := B) 12 (z := 0) (m := 0) (w := w) hq.2 (Int.le_refl _) (by omega) (Int.le_refl _) hq.1 (fun j j0 j1 => by omega)
    refine ⟨?_, i2⟩
    rcases i1 with i1 | ⟨j1, j2⟩
    · exact Or.inl i1
    · exact Or.inr ⟨by omega, j2.1, ⟨j2.2.1.1, by omega⟩, j2.2.2⟩
end
/-- the rows when the draft is the law -/
def wLaw (w : Int → Int) (c : Int) : Int → Int := fun k => if k = 2 then 1 else if 420 ≤ k ∧ k < 1269 then (if k = 420 then c else w (k + 849)) else if k = 1269 then c else w k
theorem wLaw_2 {w : Int → Int} {c : Int} : wLaw w c 2 = 1 := rfl
theorem wLaw_n {w : Int → Int} {c : Int} : wLaw w c 420 = c := rfl
theorem wLaw_t {w : Int → Int} {c k : Int} (h : 420 < k ∧ k < 1269) : wLaw w c k = w (k + 849) := by unfold wLaw; rw [if_neg (by omega), if_pos (by omega), if_neg (by omega)]
theorem wLaw_o {w : Int → Int} {c k : Int} (h : k ≠ 2) (h2 : k < 420) : wLaw w c k = w k := by unfold wLaw; rw [if_neg h, if_neg (by omega), if_neg (by omega)]
theorem WfLn_law {w : Int → Int} {c j m : Int} (hj : 0 ≤ j ∧ j < 12) (hm : m ≤ 400) (h : dLn w j m) : WfLn (wLaw w c) j := by
  obtain ⟨⟨a1, a2, a3⟩, b, c1, ⟨T, d1, d2⟩, e⟩ := h
  have e0 : wLaw w c (421 + 4 * j) = w (1270 + 4 * j) := by rw [wLaw_t (by omega)]; congr 1; omega
  have e1 : wLaw w c (421 + 4 * j + 1) = w (1270 + 4 * j + 1) := by rw [wLaw_t (by omega)]; congr 1; omega
  have e2 : wLaw w c (421 + 4 * j + 2) = w (1270 + 4 * j + 2) := by rw [wLaw_t (by omega)]; congr 1; omega
  have e3 : wLaw w c (421 + 4 * j + 3) = w (1270 + 4 * j + 3) := by rw [wLaw_t (by omega)]; congr 1; omega
  have es : ∀ i, 0 ≤ i → i < 400 → aStp (wLaw w c) i = dStp w i := fun i i0 i1 => by show wLaw w c (469 + 2 * i) = w (1318 + 2 * i); rw [wLaw_t (by omega)]; congr 1; omega
  have ea : ∀ i, 0 ≤ i → i < 400 → aArg (wLaw w c) i = dArg w i := fun i i0 i1 => by show wLaw w c (469 + 2 * i + 1) = w (1318 + 2 * i + 1); rw [wLaw_t (by omega)]; congr 1; omega
  unfold WfLn
  rw [e0, e1, e2, e3]
  refine ⟨⟨a1, a2, by omega⟩, b, c1, ⟨T, tRun_cg (fun i i0 i1 => es i (by omega) (by omega)) d1, d2⟩, fun i i0 i1 hi => ?_⟩
  rw [ea i (by omega) (by omega)]
  exact e i i0 i1 (by rw [← es i (by omega) (by omega)]; exact hi)
theorem OKw_law {b : Int} {w v : Int → Int} {c m : Int} (h : OKw b w) (hv : ∀ k, k < 420 → v k = w k) (hc : 0 ≤ c ∧ c ≤ 12) (hm : m ≤ 400) (hl : ∀ j, 0 ≤ j → j < c → dLn v j m) : OKw b (wLaw v c) := by
  have g8 := h.1.1
  obtain ⟨⟨h1, ⟨o1, o2, o3⟩, h3, h4, h5, h6⟩, k2, k3, k4, k5, k6, k7⟩ := h
  have e : ∀ k, k ≠ 2 → k < 420 → wLaw v c k = w k := fun k a b => (wLaw_o a b).trans (hv k b)
  have e0 : aPe (wLaw v c) = aPe w := e 0 (by decide) (by decide)
  have eo : ∀ p k, 0 ≤ p → p < 8 → 0 ≤ k → k < 13 → aOf (wLaw v c) p k = aOf w p k := fun p k p0 p1 k0 k1 => e _ (by omega) (by omega)
  have ew : ∀ p q, 0 ≤ p → p < aPe w → 0 ≤ q → q < aPe w → aOw (wLaw v c) p q = aOw w p q := fun p q p0 p1 q0 q1 => e _ (by omega) (by omega)
  refine ⟨⟨by rw [e0]; exact h1, ⟨by rw [e 3 (by decide) (by decide)]; exact o1, by rw [e 5 (by decide) (by decide)]; exact o2, fun p p0 p1 => ?_⟩, ⟨Or.inr wLaw_2, fun _ => ⟨by rw [wLaw_n]; exact hc, fun j j0 j1 => ?_⟩⟩, by rw [e 8 (by decide) (by decide)]; exact h4, by rw [e 6 (by decide) (by decide)]; exact h5, by rw [e 7 (by decide) (by decide)]; exact h6⟩, by rw [e 9 (by decide) (by decide)]; exact k2, by rw [e 1 (by decide) (by decide)]; exact k3, by rw [e 10 (by decide) (by decide)]; exact k4, fun p p0 p1 => by rw [eo p 4 p0 (by omega) (by decide) (by decide)]; exact k5 p p0 (by omega), fun p q p0 p1 q0 q1 => by rw [ew p q p0 (by omega) q0 (by omega)]; exact k6 p q p0 (by omega) q0 (by omega), by rw [mTot_cong e0 ew]; exact k7⟩
  · rw [e0] at p1 ⊢
    have := o3 p p0 p1
    rw [eo p 0 p0 (by omega) (by decide) (by decide), eo p 1 p0 (by omega) (by decide) (by decide), eo p 2 p0 (by omega) (by decide) (by decide), eo p 3 p0 (by omega) (by decide) (by decide), eo p 4 p0 (by omega) (by decide) (by decide), eo p 5 p0 (by omega) (by decide) (by decide)]
    exact ⟨this.1, this.2.1, this.2.2.1, this.2.2.2.1, this.2.2.2.2.1, this.2.2.2.2.2.1, fun k k0 k1 => by rw [eo p _ p0 (by omega) (by omega) (by omega)]; exact this.2.2.2.2.2.2 k k0 k1⟩
  · rw [wLaw_n] at j1
    exact WfLn_law ⟨j0, by omega⟩ hm (hl j j0 j1)
