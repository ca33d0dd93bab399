/-! THE TEXT OF A LAW: what it says, and what it leaves -/
theorem tRun_cg {f g : Int → Int} : ∀ {n : Nat} {i : Int} {T T' : List Bool}, (∀ j, i ≤ j → j < i + n → g j = f j) → tRun f i n T T' → tRun g i n T T'
  | 0, _, _, _, _, h => h
  | n + 1, i, _, _, hj, ⟨T1, h1, h2⟩ => ⟨T1, by rw [hj i (by omega) (by omega)]; exact h1, tRun_cg (fun j a b => hj j (by omega) (by omega)) h2⟩
theorem tRun_app {f : Int → Int} : ∀ {n n' : Nat} {i : Int} {T T1 T2 : List Bool}, tRun f i n T T1 → tRun f (i + n) n' T1 T2 → tRun f i (n + n') T T2
  | 0, n', i, T, T1, T2, h1, h2 => by
    have e : T = T1 := h1
    subst e
    rw [show i + ((0 : Nat) : Int) = i by omega] at h2
    rw [Nat.zero_add]
    exact h2
  | n + 1, n', i, T, T1, T2, ⟨T9, a, b⟩, h2 => by
    rw [show n + 1 + n' = (n + n') + 1 by omega]
    exact ⟨T9, a, tRun_app b (by rw [show i + 1 + (n : Int) = i + ((n + 1 : Nat) : Int) by omega]; exact h2)⟩
/-- right or wrong, where it stands then, how many steps there are, the rows then -/
abbrev pR : Type := Int × Int × Int × (Int → Int)
abbrev dStp (w : Int → Int) (i : Int) : Int := w (1318 + 2 * i)
abbrev dArg (w : Int → Int) (i : Int) : Int := w (1318 + 2 * i + 1)
/-- a step more in the draft -/
def pE (w : Int → Int) (m st a : Int) : Int → Int := wup (wup w (1318 + 2 * m) st) (1318 + 2 * m + 1) a
theorem pE_o {w : Int → Int} {m st a k : Int} (h : k < 1318 + 2 * m ∨ 1318 + 2 * m + 2 ≤ k) : pE w m st a k = w k := by unfold pE; rw [wup_ne _ _ (by omega), wup_ne _ _ (by omega)]
theorem pE_s {w : Int → Int} {m st a : Int} : pE w m st a (1318 + 2 * m) = st := by unfold pE; rw [wup_ne _ _ (by omega), wup_same]
theorem pE_a {w : Int → Int} {m st a : Int} : pE w m st a (1318 + 2 * m + 1) = a := wup_same _ _ _
/-- on, if it is right -/
def pThen (R : pR) (k : Int → Int → (Int → Int) → pR) : pR := if R.1 = 0 then R else k R.2.1 R.2.2.1 R.2.2.2
theorem pThen_1 {q m : Int} {w : Int → Int} {k : Int → Int → (Int → Int) → pR} : pThen (1, q, m, w) k = k q m w := if_neg (show ¬ (1 : Int) = 0 by decide)
theorem pThen_t {R : pR} {k : Int → Int → (Int → Int) → pR} (h : R.1 = 1) : pThen R k = k R.2.1 R.2.2.1 R.2.2.2 := if_neg (by omega)
theorem pThen_f {R : pR} {k : Int → Int → (Int → Int) → pR} (h : R.1 = 0) : pThen R k = R := if_pos h
section
variable (B : Int → Int) (n : Int)
/-- which step a part is, and its number -/
def pSt (q : Int) : Int := if vNm B n q 3 0 999 then 7 else if vWd B n q 21 then 0 else if vWd B n q 2 then 1 else if vWd B n q 6 then 2 else if vWd B n q 1 then 3 else if vWd B n q 22 then 4 else -1
def pAr (q : Int) : Int := if pSt B n q = 7 then tV B n q else 0
def pPart (q m : Int) (w : Int → Int) : pR := if pSt B n q = -1 then (0, q, m, w) else (1, tkN B n q, m + 1, pE w m (pSt B n q) (pAr B n q))
def pSumR : Nat → Int → Int → (Int → Int) → pR
  | 0, q, m, w => (0, q, m, w)
  | f + 1, q, m, w => if vSg B n q 43 then pThen (pPart B n (tkN B n q) m w) (fun q1 m1 w1 => pSumR f q1 (m1 + 1) (pE w1 m1 8 0)) else (1, q, m, w)
def pSum (q m : Int) (w : Int → Int) : pR := pThen (pPart B n q m w) (pSumR B n 401)
def pCmp (q m : Int) (w : Int → Int) : pR := pThen (pSum B n q m w) (fun q1 m1 w1 => if vSg B n q1 60 ∨ vSg B n q1 62 then pThen (pSum B n (tkN B n q1) m1 w1) (fun q2 m2 w2 => (1, q2, m2 + 1, pE w2 m2 (if vSg B n q1 60 then 9 else 10) 0)) else (0, q1, m1, w1))
def pTag (q m : Int) (w : Int → Int) : pR := if vWd B n q 19 then (1, tkN B n q, m + 1, pE w m 5 0) else if vWd B n q 20 then (1, tkN B n q, m + 1, pE w m 6 0) else pCmp B n q m w
def pAllR (A : Int → Int → (Int → Int) → pR) : Nat → Int → Int → (Int → Int) → pR
  | 0, q, m, w => (0, q, m, w)
  | f + 1, q, m, w => if vWd B n q 23 then pThen (A (tkN B n q) m w) (fun q1 m1 w1 => pAllR A f q1 (m1 + 1) (pE w1 m1 12 0)) else (1, q, m, w)
def pAll (A : Int → Int → (Int → Int) → pR) (q m : Int) (w : Int → Int) : pR := pThen (A q m w) (pAllR B n A 401)
def pOrR (A : Int → Int → (Int → Int) → pR) : Nat → Int → Int → (Int → Int) → pR
  | 0, q, m, w => (0, q, m, w)
  | f + 1, q, m, w => if vWd B n q 24 then pThen (pAll B n A (tkN B n q) m w) (fun q1 m1 w1 => pOrR A f q1 (m1 + 1) (pE w1 m1 13 0)) else (1, q, m, w)
def pCond (A : Int → Int → (Int → Int) → pR) (q m : Int) (w : Int → Int) : pR := pThen (pAll B n A q m w) (pOrR B n A 401)
/-- an atom under so many depths as are left -/
def pAtom : Nat → Int → Int → (Int → Int) → pR
  | 0, q, m, w => if vSg B n q 40 ∨ vWd B n q 18 then (0, q, m, w) else pTag B n q m w
  | g + 1, q, m, w => if vSg B n q 40 then pThen (pCond B n (pAtom g) (tkN B n q) m w) (fun q1 m1 w1 => if vSg B n q1 41 then (1, tkN B n q1, m1, w1) else (0, q1, m1, w1)) else if vWd B n q 18 then pThen (pAtom g (tkN B n q) m w) (fun q1 m1 w1 => (1, q1, m1 + 1, pE w1 m1 11 0)) else pTag B n q m w
/-- a line's head -/
def pHd (w : Int → Int) (z put a m : Int) : Int → Int := wup (wup (wup w (1270 + 4 * z) put) (1270 + 4 * z + 1) a) (1270 + 4 * z + 2) m
abbrev pPut (q : Int) : Int := if vWd B n q 16 then 1 else 0
def pLine (z q m : Int) (w : Int → Int) : pR :=
  if vWd B n q 16 ∨ vWd B n q 15 then (
    if vNm B n (tkN B n q) 3 0 99 then (
      if vWd B n (tkN B n (tkN B n q)) 17 then pThen (pCond B n (pAtom B n 6) (tkN B n (tkN B n (tkN B n q))) m (pHd w z (pPut B n q) (tV B n (tkN B n q)) m)) (fun q1 m1 w1 => (1, q1, m1, wup w1 (1270 + 4 * z + 3) m1))
      else (1, tkN B n (tkN B n q), m, wup (pHd w z (pPut B n q) (tV B n (tkN B n q)) m) (1270 + 4 * z + 3) m))
    else (0, tkN B n q, m, w))
  else (0, q, m, w)
/-- all lines: how many, or -1 -/
def pLns : Nat → Int → Int → Int → (Int → Int) → pR
  | 0, _, q, m, w => (-1, q, m, w)
  | k + 1, z, q, m, w => if (pLine B n z q m w).1 = 0 then (-1, (pLine B n z q m w).2) else if tkK B n (pLine B n z q m w).2.1 = 0 then (z + 1, (pLine B n z q m w).2) else if vSg B n (pLine B n z q m w).2.1 59 then pLns k (z + 1) (tkN B n (pLine B n z q m w).2.1) (pLine B n z q m w).2.2.1 (pLine B n z q m w).2.2.2 else (-1, (pLine B n z q m w).2)
def pTxt (q : Int) (w : Int → Int) : pR := if tkK B n q = 0 then (0, q, 0, w) else pLns B n 12 0 q 0 w
end
/-- what a reader leaves: it goes on by s at least, by b more than its steps; its steps bring the types ti to to -/
def pGd (n s b : Int) (c : Nat) (ti to : List Bool → List Bool) (q m : Int) (w : Int → Int) (R : pR) : Prop :=
  (R.1 = 0 ∧ q ≤ R.2.1 ∧ R.2.1 ≤ n) ∨ (R.1 = 1 ∧ q + s ≤ R.2.1 ∧ R.2.1 ≤ n ∧ m ≤ R.2.2.1 ∧ R.2.2.1 - m + b ≤ R.2.1 - q ∧ (∀ k, (k < 1318 + 2 * m ∨ 1318 + 2 * R.2.2.1 ≤ k) → R.2.2.2 k = w k) ∧ (∀ i, m ≤ i → i < R.2.2.1 → dStp R.2.2.2 i = 7 → 0 ≤ dArg R.2.2.2 i ∧ dArg R.2.2.2 i ≤ 999) ∧ ∀ T : List Bool, T.length + c ≤ 60 → tRun (dStp R.2.2.2) m (R.2.2.1 - m).toNat (ti T) (to T))
section
variable {n s b s1 b1 s2 b2 q m : Int} {c c1 : Nat} {ti tm to : List Bool → List Bool} {w : Int → Int} {R : pR}
theorem pGd_01 (h : pGd n s b c ti to q m w R) : R.1 = 0 ∨ R.1 = 1 := by
  rcases h with h | h
  · exact Or.inl h.1
  · exact Or.inr h.1
theorem pGd_q (h : pGd n s b c ti to q m w R) (hs : 0 ≤ s) : q ≤ R.2.1 ∧ R.2.1 ≤ n := by
  rcases h with h | h
  · exact h.2
  · have := h.2.1
    have := h.2.2.1
    omega
theorem pGd_0 (hq : q ≤ n) (t : List Bool → List Bool) : pGd n 0 0 c t t q m w (1, q, m, w) := by
  refine Or.inr ⟨rfl, ?_, hq, Int.le_refl _, ?_, fun _ _ => rfl, fun i a b => ?_, fun T _ => ?_⟩
  · show q + 0 ≤ q; omega
  · show m - m + 0 ≤ q - q; omega
  · have h2 : i < m := b
    omega
  · show tRun _ m (m - m).toNat _ _
    rw [show (m - m).toNat = 0 by omega]
    rfl
theorem pGd_f {q' m' : Int} {w' : Int → Int} (h : q ≤ q') (h2 : q' ≤ n) : pGd n s b c ti to q m w (0, q', m', w') := Or.inl ⟨rfl, h, h2⟩
theorem pGd_wk (h : pGd n s1 b1 c1 ti to q m w R) (hs : s ≤ s1) (hb : b ≤ b1) (hc : c1 ≤ c) : pGd n s b c ti to q m w R := by
  rcases h with h | ⟨h1, h2, h3, h4, h5, h6, h7, h8⟩
  · exact Or.inl h
  · exact Or.inr ⟨h1, by omega, h3, h4, by omega, h6, h7, fun T hT => h8 T (by omega)⟩
theorem pGd_sh {q0 x : Int} (h : pGd n s1 b1 c ti to q m w R) (hx : q0 + x ≤ q) (h0 : q0 ≤ q) (hs : s ≤ s1 + x) (hb : b ≤ b1 + x) : pGd n s b c ti to q0 m w R := by
  rcases h with h | ⟨h1, h2, h3, h4, h5, h6, h7, h8⟩
  · exact Or.inl ⟨h.1, by omega, h.2.2⟩
  · exact Or.inr ⟨h1, by omega, h3, h4, by omega, h6, h7, h8⟩
theorem pGd_x (x : Bool) (h : pGd n s b c1 ti to q m w R) (hc : c1 + 1 ≤ c) : pGd n s b c (fun T => ti (x :: T)) (fun T => to (x :: T)) q m w R := by
  rcases h with h | ⟨h1, h2, h3, h4, h5, h6, h7, h8⟩
  · exact Or.inl h
  · exact Or.inr ⟨h1, h2, h3, h4, h5, h6, h7, fun T hT => h8 (x :: T) (by rw [List.length_cons]; omega)⟩
theorem pGd_then {k : Int → Int → (Int → Int) → pR} (h1 : pGd n s1 b1 c ti tm q m w R) (h2 : R.1 = 1 → q ≤ R.2.1 → R.2.1 ≤ n → pGd n s2 b2 c tm to R.2.1 R.2.2.1 R.2.2.2 (k R.2.1 R.2.2.1 R.2.2.2)) (hs : s ≤ s1 + s2) (hb : b ≤ b1 + b2) (h0 : 0 ≤ s1) : pGd n s b c ti to q m w (pThen R k) := by
  have hq := pGd_q h1 h0
  rcases h1 with h | ⟨g1, g2, g3, g4, g5, g6, g7, g8⟩
  · rw [pThen_f h.1]; exact Or.inl h
  · rw [pThen_t g1]
    have h2' := h2 g1 hq.1 hq.2
    generalize k R.2.1 R.2.2.1 R.2.2.2 = S at *
    rcases h2' with f | ⟨f1, f2, f3, f4, f5, f6, f7, f8⟩
    · exact Or.inl ⟨f.1, by omega, f.2.2⟩
    · refine Or.inr ⟨f1, by omega, f3, by omega, by omega, fun k hk => ?_, fun i i0 i1 hi => ?_, fun T hT => ?_⟩
      · rw [f6 k (by omega), g6 k (by omega)]
      · by_cases e : i < R.2.2.1
        · have ea : dArg S.2.2.2 i = dArg R.2.2.2 i := f6 _ (by omega)
          have es : dStp S.2.2.2 i = dStp R.2.2.2 i := f6 _ (by omega)
          rw [ea]
          exact g7 i i0 e (by rw [← es]; exact hi)
        · exact f7 i (by omega) i1 hi
      · have a1 := tRun_cg (g := dStp S.2.2.2) (fun j j0 j1 => f6 _ (by omega)) (g8 T hT)
        have a2 := f8 T hT
        rw [show R.2.2.1 = m + (((R.2.2.1 - m).toNat : Nat) : Int) by omega] at a2
        have a3 := tRun_app a1 a2
        rw [show (R.2.2.1 - m).toNat + (S.2.2.1 - (m + (((R.2.2.1 - m).toNat : Nat) : Int))).toNat = (S.2.2.1 - m).toNat by omega] at a3
        exact a3
theorem pGd_em {st a : Int} (he : ∀ T : List Bool, T.length + c ≤ 60 → tStep st (ti T) (tm T)) (ha : st = 7 → 0 ≤ a ∧ a ≤ 999) (h : pGd n s b2 c tm to q (m + 1) (pE w m st a) R) (hb : b + 1 ≤ b2) : pGd n s b c ti to q m w R := by
  rcases h with h | ⟨f1, f2, f3, f4, f5, f6, f7, f8⟩
  · exact Or.inl h
  · refine Or.inr ⟨f1, f2, f3, by omega, by omega, fun k hk => ?_, fun i i0 i1 hi => ?_, fun T hT => ?_⟩
    · rw [f6 k (by omega), pE_o (by omega)]
    · by_cases e : i = m
      · subst e
        have ea : dArg R.2.2.2 i = a := (f6 _ (by omega)).trans pE_a
        have es : dStp R.2.2.2 i = st := (f6 _ (by omega)).trans pE_s
        rw [ea]
        exact ha (by rw [← es]; exact hi)
      · exact f7 i (by omega) i1 hi
    · have es : dStp R.2.2.2 m = st := (f6 _ (by omega)).trans pE_s
      rw [show (R.2.2.1 - m).toNat = (R.2.2.1 - (m + 1)).toNat + 1 by omega]
      exact ⟨tm T, by rw [es]; exact he T hT, f8 T hT⟩
end
section
variable {B : Int → Int} {n q : Int}
theorem tk_s (hq : q ≤ n) (h : ¬ tkK B n q = 0) : q + 1 ≤ tkN B n q ∧ tkN B n q ≤ n := by
  have hk := tkK_in (B := B) (n := n) (q := q)
  have hE := tkE_in (B := B) (n := n) (q := q) hq
  have hL := lx_le (B := B) (n := n) (lo := 32) (hi := 32) (p := tkE B n q) hE.2.1
  have e : tkN B n q = lx B n 32 32 (tkE B n q) := rfl
  rw [e]
  omega
theorem wd_s {t : Nat} (hq : q ≤ n) (h : vWd B n q t) : q + 1 ≤ tkN B n q ∧ tkN B n q ≤ n := tk_s hq (by have := h.1; omega)
theorem sg_s {x : Int} (hq : q ≤ n) (h : vSg B n q x) : q + 1 ≤ tkN B n q ∧ tkN B n q ≤ n := tk_s hq (by have := h.1; omega)
theorem nm_s {f lo hi : Int} (hq : q ≤ n) (h : vNm B n q f lo hi) : q + 1 ≤ tkN B n q ∧ tkN B n q ≤ n := tk_s hq (by have := h.1; omega)
theorem pSt_c : pSt B n q = -1 ∨ (pSt B n q = 7 ∧ vNm B n q 3 0 999) ∨ ((0 ≤ pSt B n q ∧ pSt B n q ≤ 4) ∧ tkK B n q = 1) := by
  unfold pSt
  split
  · rename_i h; exact Or.inr (Or.inl ⟨rfl, h⟩)
  · split
    · rename_i h; exact Or.inr (Or.inr ⟨by decide, h.1⟩)
    · split
      · rename_i h; exact Or.inr (Or.inr ⟨by decide, h.1⟩)
      · split
        · rename_i h; exact Or.inr (Or.inr ⟨by decide, h.1⟩)
        · split
          · rename_i h; exact Or.inr (Or.inr ⟨by decide, h.1⟩)
          · split
            · rename_i h; exact Or.inr (Or.inr ⟨by decide, h.1⟩)
            · exact Or.inl rfl
theorem pAr_in : pSt B n q = 7 → 0 ≤ pAr B n q ∧ pAr B n q ≤ 999 := by
  intro h
  have hc := pSt_c (B := B) (n := n) (q := q)
  have hv : vNm B n q 3 0 999 := by
    rcases hc with h1 | ⟨-, h1⟩ | ⟨h1, -⟩
    · omega
    · exact h1
    · omega
  unfold pAr
  rw [if_pos h]
  exact tV_in hv
theorem ts_push {st : Int} {T : List Bool} (h : (0 ≤ st ∧ st ≤ 4) ∨ st = 7) (hT : T.length < 60) : tStep st T (false :: T) := Or.inl ⟨by omega, hT, by rw [decide_eq_false (by omega)]⟩
theorem ts_tag {st : Int} {T : List Bool} (h : st = 5 ∨ st = 6) (hT : T.length < 60) : tStep st T (true :: T) := Or.inl ⟨by omega, hT, by rw [decide_eq_true h]⟩
theorem ts_not {T : List Bool} : tStep 11 (true :: T) (true :: T) := Or.inr (Or.inl ⟨rfl, T, rfl, rfl⟩)
theorem ts_add {T : List Bool} : tStep 8 (false :: false :: T) (false :: T) := Or.inr (Or.inr (Or.inl ⟨rfl, T, rfl, rfl⟩))
theorem ts_cmp {st : Int} {T : List Bool} (h : st = 9 ∨ st = 10) : tStep st (false :: false :: T) (true :: T) := Or.inr (Or.inr (Or.inr (Or.inl ⟨h, T, rfl, rfl⟩)))
theorem ts_two {st : Int} {T : List Bool} (h : st = 12 ∨ st = 13) : tStep st (true :: true :: T) (true :: T) := Or.inr (Or.inr (Or.inr (Or.inr ⟨h, T, rfl, rfl⟩)))
theorem pPart_g {m : Int} {w : Int → Int} (hq : q ≤ n) : pGd n 1 0 1 (fun T => T) (fun T => false :: T) q m w (pPart B n q m w) := by
  unfold pPart
  have hc := pSt_c (B := B) (n := n) (q := q)
  by_cases e : pSt B n q = -1
  · rw [if_pos e]; exact pGd_f (Int.le_refl _) hq
  · rw [if_neg e]
    have hk : ¬ tkK B n q = 0 := by
      rcases hc with h | ⟨-, h⟩ | ⟨-, h⟩
      · omega
      · have := h.1; omega
      · omega
    have ht := tk_s hq hk
    refine pGd_em (b2 := 1) (st := pSt B n q) (a := pAr B n q) (fun T hT => ts_push (by omega) (by omega)) pAr_in ?_ (by omega)
    exact pGd_sh (x := 1) (q := tkN B n q) (s1 := 0) (b1 := 0) (pGd_0 ht.2 _) (by omega) (by omega) (by omega) (by omega)
theorem pSumR_g : ∀ (f : Nat) {q m : Int} {w : Int → Int}, q ≤ n → pGd n 0 0 2 (fun T => false :: T) (fun T => false :: T) q m w (pSumR B n f q m w)
  | 0, q, m, w, hq => pGd_f (Int.le_refl _) hq
  | f + 1, q, m, w, hq => by
    unfold pSumR
    by_cases e : vSg B n q 43
    · rw [if_pos e]
      have ht := sg_s hq e
      refine pGd_sh (s1 := 0) (b1 := -1) (x := 1) (q := tkN B n q) ?_ (by omega) (by omega) (by omega) (by omega)
      refine pGd_then (s1 := 1) (b1 := 0) (s2 := 0) (b2 := -1) (pGd_x false (pPart_g (m := m) (w := w) ht.2) (by omega)) (fun h0 h1 h2 => ?_) (by omega) (by omega) (by omega)
      exact pGd_em (b2 := 0) (fun T hT => ts_add) (fun h => absurd h (by decide)) (pSumR_g f h2) (by omega)
    · rw [if_neg e]; exact pGd_0 hq _
theorem pSum_g {m : Int} {w : Int → Int} (hq : q ≤ n) : pGd n 1 0 2 (fun T => T) (fun T => false :: T) q m w (pSum B n q m w) := by
  unfold pSum
  exact pGd_then (s1 := 1) (b1 := 0) (s2 := 0) (b2 := 0) (pGd_wk (pPart_g hq) (by omega) (by omega) (by omega)) (fun h0 h1 h2 => pSumR_g 401 h2) (by omega) (by omega) (by omega)
theorem pCmp_g {m : Int} {w : Int → Int} (hq : q ≤ n) : pGd n 1 0 3 (fun T => T) (fun T => true :: T) q m w (pCmp B n q m w) := by
  unfold pCmp
  refine pGd_then (s1 := 1) (b1 := 0) (s2 := 0) (b2 := 0) (pGd_wk (pSum_g hq) (by omega) (by omega) (by omega)) (fun h0 h1 h2 => ?_) (by omega) (by omega) (by omega)
  generalize (pSum B n q m w).2.1 = q1 at *
  by_cases e : vSg B n q1 60 ∨ vSg B n q1 62
  · rw [if_pos e]
    have ht : q1 + 1 ≤ tkN B n q1 ∧ tkN B n q1 ≤ n := by
      rcases e with e | e <;> exact sg_s h2 e
    refine pGd_sh (s1 := 0) (b1 := -1) (x := 1) (q := tkN B n q1) ?_ (by omega) (by omega) (by omega) (by omega)
    refine pGd_then (s1 := 1) (b1 := 0) (s2 := 0) (b2 := -1) (pGd_x false (pSum_g ht.2) (by omega)) (fun h3 h4 h5 => ?_) (by omega) (by omega) (by omega)
    exact pGd_em (b2 := 0) (fun T hT => ts_cmp (by split <;> omega)) (fun h => absurd h (by split <;> decide)) (pGd_0 h5 _) (by omega)
  · rw [if_neg e]; exact pGd_f (Int.le_refl _) h2
theorem pTag_g {m : Int} {w : Int → Int} (hq : q ≤ n) : pGd n 1 0 3 (fun T => T) (fun T => true :: T) q m w (pTag B n q m w) := by
  unfold pTag
  by_cases e : vWd B n q 19
  · rw [if_pos e]
    have ht := wd_s hq e
    refine pGd_em (b2 := 1) (st := 5) (a := 0) (fun T hT => ts_tag (Or.inl rfl) (by omega)) (fun h => absurd h (by decide)) ?_ (by omega)
    exact pGd_sh (x := 1) (q := tkN B n q) (s1 := 0) (b1 := 0) (pGd_0 ht.2 _) (by omega) (by omega) (by omega) (by omega)
  · rw [if_neg e]
    by_cases e2 : vWd B n q 20
    · rw [if_pos e2]
      have ht := wd_s hq e2
      refine pGd_em (b2 := 1) (st := 6) (a := 0) (fun T hT => ts_tag (Or.inr rfl) (by omega)) (fun h => absurd h (by decide)) ?_ (by omega)
      exact pGd_sh (x := 1) (q := tkN B n q) (s1 := 0) (b1 := 0) (pGd_0 ht.2 _) (by omega) (by omega) (by omega) (by omega)
    · rw [if_neg e2]; exact pCmp_g hq
/-- a reader of atoms that may stand there -/
abbrev aGd (n : Int) (c : Nat) (A : Int → Int → (Int → Int) → pR) : Prop := ∀ (q m : Int) (w : Int → Int), q ≤ n → pGd n 1 0 c (fun T => T) (fun T => true :: T) q m w (A q m w)
theorem pAllR_g {A : Int → Int → (Int → Int) → pR} {c : Nat} (hA : aGd n c A) : ∀ (f : Nat) {q m : Int} {w : Int → Int}, q ≤ n → pGd n 0 0 (c + 1) (fun T => true :: T) (fun T => true :: T) q m w (pAllR B n A f q m w)
  | 0, q, m, w, hq => pGd_f (Int.le_refl _) hq
  | f + 1, q, m, w, hq => by
    unfold pAllR
    by_cases e : vWd B n q 23
    · rw [if_pos e]
      have ht := wd_s hq e
      refine pGd_sh (s1 := 0) (b1 := -1) (x := 1) (q := tkN B n q) ?_ (by omega) (by omega) (by omega) (by omega)
      refine pGd_then (s1 := 1) (b1 := 0) (s2 := 0) (b2 := -1) (pGd_x true (hA _ m w ht.2) (by omega)) (fun h0 h1 h2 => ?_) (by omega) (by omega) (by omega)
      exact pGd_em (b2 := 0) (fun T hT => ts_two (Or.inl rfl)) (fun h => absurd h (by decide)) (pAllR_g hA f h2) (by omega)
    · rw [if_neg e]; exact pGd_0 hq _
theorem pAll_g {A : Int → Int → (Int → Int) → pR} {c : Nat} (hA : aGd n c A) {m : Int} {w : Int → Int} (hq : q ≤ n) : pGd n 1 0 (c + 1) (fun T => T) (fun T => true :: T) q m w (pAll B n A q m w) := by
  unfold pAll
  exact pGd_then (s1 := 1) (b1 := 0) (s2 := 0) (b2 := 0) (pGd_wk (hA q m w hq) (by omega) (by omega) (by omega)) (fun h0 h1 h2 => pAllR_g hA 401 h2) (by omega) (by omega) (by omega)
theorem pOrR_g {A : Int → Int → (Int → Int) → pR} {c : Nat} (hA : aGd n c A) : ∀ (f : Nat) {q m : Int} {w : Int → Int}, q ≤ n → pGd n 0 0 (c + 2) (fun T => true :: T) (fun T => true :: T) q m w (pOrR B n A f q m w)
  | 0, q, m, w, hq => pGd_f (Int.le_refl _) hq
  | f + 1, q, m, w, hq => by
    unfold pOrR
    by_cases e : vWd B n q 24
    · rw [if_pos e]
      have ht := wd_s hq e
      refine pGd_sh (s1 := 0) (b1 := -1) (x := 1) (q := tkN B n q) ?_ (by omega) (by omega) (by omega) (by omega)
      refine pGd_then (s1 := 1) (b1 := 0) (s2 := 0) (b2 := -1) (pGd_x true (pAll_g hA ht.2) (by omega)) (fun h0 h1 h2 => ?_) (by omega) (by omega) (by omega)
      exact pGd_em (b2 := 0) (fun T hT => ts_two (Or.inr rfl)) (fun h => absurd h (by decide)) (pOrR_g hA f h2) (by omega)
    · rw [if_neg e]; exact pGd_0 hq _
theorem pCond_g {A : Int → Int → (Int → Int) → pR} {c : Nat} (hA : aGd n c A) {m : Int} {w : Int → Int} (hq : q ≤ n) : pGd n 1 0 (c + 2) (fun T => T) (fun T => true :: T) q m w (pCond B n A q m w) := by
  unfold pCond
  exact pGd_then (s1 := 1) (b1 := 0) (s2 := 0) (b2 := 0) (pGd_wk (pAll_g hA hq) (by omega) (by omega) (by omega)) (fun h0 h1 h2 => pOrR_g hA 401 h2) (by omega) (by omega) (by omega)
theorem pAtom_g : ∀ (g : Nat), aGd n (2 * g + 3) (pAtom B n g)
  | 0, q, m, w, hq => by
    unfold pAtom
    by_cases e : vSg B n q 40 ∨ vWd B n q 18
    · rw [if_pos e]; exact pGd_f (Int.le_refl _) hq
    · rw [if_neg e]; exact pTag_g hq
  | g + 1, q, m, w, hq => by
    unfold pAtom
    by_cases e : vSg B n q 40
    · rw [if_pos e]
      have ht := sg_s hq e
      refine pGd_sh (s1 := 0) (b1 := 0) (x := 1) (q := tkN B n q) ?_ (by omega) (by omega) (by omega) (by omega)
      refine pGd_then (s1 := 1) (b1 := 0) (s2 := 0) (b2 := 0) (pGd_wk (pCond_g (pAtom_g g) ht.2) (by omega) (by omega) (by omega)) (fun h0 h1 h2 => ?_) (by omega) (by omega) (by omega)
      generalize (pCond B n (pAtom B n g) (tkN B n q) m w).2.1 = q1 at *
      by_cases e2 : vSg B n q1 41
      · rw [if_pos e2]
        have ht2 := sg_s h2 e2
        exact pGd_sh (x := 1) (q := tkN B n q1) (s1 := 0) (b1 := 0) (pGd_0 ht2.2 _) (by omega) (by omega) (by omega) (by omega)
      · rw [if_neg e2]; exact pGd_f (Int.le_refl _) h2
    · rw [if_neg e]
      by_cases e2 : vWd B n q 18
      · rw [if_pos e2]
        have ht := wd_s hq e2
        refine pGd_sh (s1 := 0) (b1 := -1) (x := 1) (q := tkN B n q) ?_ (by omega) (by omega) (by omega) (by omega)
        refine pGd_then (s1 := 1) (b1 := 0) (s2 := 0) (b2 := -1) (pGd_wk (pAtom_g g _ m w ht.2) (by omega) (by omega) (by omega)) (fun h0 h1 h2 => ?_) (by omega) (by omega) (by omega)
        exact pGd_em (b2 := 0) (fun T hT => ts_not) (fun h => absurd h (by decide)) (pGd_0 h2 _) (by omega)
      · rw [if_neg e2]; exact pGd_wk (pTag_g hq) (by omega) (by omega) (by omega)
/-! ### as far as the bytes go it goes on -/
theorem pSumR_f : ∀ (f f' : Nat) {q m : Int} {w : Int → Int}, q ≤ n → n - q < f → n - q < f' → pSumR B n f q m w = pSumR B n f' q m w
  | 0, _, q, m, w, hq, h, _ => absurd h (by omega)
  | _ + 1, 0, q, m, w, hq, _, h => absurd h (by omega)
  | f + 1, f' + 1, q, m, w, hq, h, h' => by
    unfold pSumR
    by_cases e : vSg B n q 43
    · rw [if_pos e, if_pos e]
      have ht := sg_s hq e
      have hg := pPart_g (B := B) (m := m) (w := w) ht.2
      have hq2 := pGd_q hg (by decide)
      rcases pGd_01 hg with h0 | h0
      · rw [pThen_f h0, pThen_f h0]
      · rw [pThen_t h0, pThen_t h0]
        exact pSumR_f f f' hq2.2 (by omega) (by omega)
    · rw [if_neg e, if_neg e]
theorem pSumR_u {m : Int} {w : Int → Int} (h0 : 0 ≤ q) (hq : q ≤ n) (hn : n ≤ 400) : pSumR B n 401 q m w = if vSg B n q 43 then pThen (pPart B n (tkN B n q) m w) (fun q1 m1 w1 => pSumR B n 401 q1 (m1 + 1) (pE w1 m1 8 0)) else (1, q, m, w) := by
  rw [pSumR_f 401 402 hq (by omega) (by omega)]
  rfl
theorem pAllR_f {A : Int → Int → (Int → Int) → pR} {c : Nat} (hA : aGd n c A) : ∀ (f f' : Nat) {q m : Int} {w : Int → Int}, q ≤ n → n - q < f → n - q < f' → pAllR B n A f q m w = pAllR B n A f' q m w
  | 0, _, q, m, w, hq, h, _ => absurd h (by omega)
  | _ + 1, 0, q, m, w, hq, _, h => absurd h (by omega)
  | f + 1, f' + 1, q, m, w, hq, h, h' => by
    unfold pAllR
    by_cases e : vWd B n q 23
    · rw [if_pos e, if_pos e]
      have ht := wd_s hq e
      have hg := hA _ m w ht.2
      have hq2 := pGd_q hg (by decide)
      rcases pGd_01 hg with h0 | h0
      · rw [pThen_f h0, pThen_f h0]
      · rw [pThen_t h0, pThen_t h0]
        exact pAllR_f hA f f' hq2.2 (by omega) (by omega)
    · rw [if_neg e, if_neg e]
theorem pAllR_u {A : Int → Int → (Int → Int) → pR} {c : Nat} (hA : aGd n c A) {m : Int} {w : Int → Int} (h0 : 0 ≤ q) (hq : q ≤ n) (hn : n ≤ 400) : pAllR B n A 401 q m w = if vWd B n q 23 then pThen (A (tkN B n q) m w) (fun q1 m1 w1 => pAllR B n A 401 q1 (m1 + 1) (pE w1 m1 12 0)) else (1, q, m, w) := by
  rw [pAllR_f hA 401 402 hq (by omega) (by omega)]
  rfl
theorem pOrR_f {A : Int → Int → (Int → Int) → pR} {c : Nat} (hA : aGd n c A) : ∀ (f f' : Nat) {q m : Int} {w : Int → Int}, q ≤ n → n - q < f → n - q < f' → pOrR B n A f q m w = pOrR B n A f' q m w
  | 0, _, q, m, w, hq, h, _ => absurd h (by omega)
  | _ + 1, 0, q, m, w, hq, _, h => absurd h (by omega)
  | f + 1, f' + 1, q, m, w, hq, h, h' => by
    unfold pOrR
    by_cases e : vWd B n q 24
    · rw [if_pos e, if_pos e]
      have ht := wd_s hq e
      have hg := pAll_g (B := B) hA (m := m) (w := w) ht.2
      have hq2 := pGd_q hg (by decide)
      rcases pGd_01 hg with h0 | h0
      · rw [pThen_f h0, pThen_f h0]
      · rw [pThen_t h0, pThen_t h0]
        exact pOrR_f hA f f' hq2.2 (by omega) (by omega)
    · rw [if_neg e, if_neg e]
theorem pOrR_u {A : Int → Int → (Int → Int) → pR} {c : Nat} (hA : aGd n c A) {m : Int} {w : Int → Int} (h0 : 0 ≤ q) (hq : q ≤ n) (hn : n ≤ 400) : pOrR B n A 401 q m w = if vWd B n q 24 then pThen (pAll B n A (tkN B n q) m w) (fun q1 m1 w1 => pOrR B n A 401 q1 (m1 + 1) (pE w1 m1 13 0)) else (1, q, m, w) := by
  rw [pOrR_f hA 401 402 hq (by omega) (by omega)]
  rfl
end
