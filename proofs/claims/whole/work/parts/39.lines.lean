/-! A LAW'S LINES: both sides -/
def wup (f : Int → Int) (k v : Int) : Int → Int := fun j => if j = k then v else f j
theorem wup_same (f : Int → Int) (k v : Int) : wup f k v k = v := if_pos rfl
theorem wup_ne (f : Int → Int) {k j : Int} (v : Int) (h : j ≠ k) : wup f k v j = f j := if_neg h
theorem wup_wup (f : Int → Int) (k v u : Int) : wup (wup f k v) k u = wup f k u := by
  funext j
  unfold wup
  split <;> rfl
theorem jup_at (I : Nat → Int → Int) (a : Nat) (k v : Int) : jup I a k v a = wup (I a) k v := by
  funext j
  simp [jup, wup]
abbrev rEI (r : Int) (sh : List (Nat × Nat)) (F : Nat → Int → Option Nat) (P : (Nat → Int → Int) → Prop) : jzO → jzH → Prop := fun o h => ∃ I', o = .inl (some (jI r)) ∧ h = (sh, I', F) ∧ P I'
abbrev rEV (sh : List (Nat × Nat)) (F : Nat → Int → Option Nat) (P : (Nat → Int → Int) → Prop) : jzO → jzH → Prop := fun o h => ∃ I', o = .inl none ∧ h = (sh, I', F) ∧ P I'
theorem rEI_of {z r : Int} {sh : List (Nat × Nat)} {I : Nat → Int → Int} {F : Nat → Int → Option Nat} {P : (Nat → Int → Int) → Prop} (e : z = r) (h : P I) : rEI r sh F P (.inl (some (jI z))) (sh, I, F) := by subst e; exact ⟨I, rfl, rfl, h⟩
theorem rEV_of {sh : List (Nat × Nat)} {I : Nat → Int → Int} {F : Nat → Int → Option Nat} {P : (Nat → Int → Int) → Prop} (h : P I) : rEV sh F P (.inl none) (sh, I, F) := ⟨I, rfl, rfl, h⟩
/-- only this row may have changed -/
abbrev Fr1 (a0 : Nat) (I I' : Nat → Int → Int) : Prop := ∀ a, a ≠ a0 → I' a = I a
theorem Fr1_up {a0 : Nat} {I I' : Nat → Int → Int} {k v : Int} (h : Fr1 a0 I I') : Fr1 a0 I (jup I' a0 k v) := fun a ha => by rw [jup_ne _ _ _ ha]; exact h a ha
/-! ### a line as steps: its types, its values -/
def tStep (st : Int) (T T' : List Bool) : Prop :=
  ((0 ≤ st ∧ st ≤ 7) ∧ T.length < 60 ∧ T' = decide (st = 5 ∨ st = 6) :: T) ∨ (st = 11 ∧ ∃ R, T = true :: R ∧ T' = true :: R) ∨ (st = 8 ∧ ∃ R, T = false :: false :: R ∧ T' = false :: R) ∨ ((st = 9 ∨ st = 10) ∧ ∃ R, T = false :: false :: R ∧ T' = true :: R) ∨ ((st = 12 ∨ st = 13) ∧ ∃ R, T = true :: true :: R ∧ T' = true :: R)
def tRun (f : Int → Int) : Int → Nat → List Bool → List Bool → Prop
  | _, 0, T, T' => T = T'
  | i, n + 1, T, T' => ∃ T1, tStep (f i) T T1 ∧ tRun f (i + 1) n T1 T'
def eStep (fa : Int → Int) (st arg : Int) : List Int → List Int
  | b :: a :: R => if st ≤ 7 then (if st = 7 then arg else fa st) :: b :: a :: R else if st = 11 then (1 - b) :: a :: R else (if st = 8 then a + b else if st = 9 then (if a < b then 1 else 0) else if st = 10 then (if b < a then 1 else 0) else if st = 12 then (if a + b = 2 then 1 else 0) else (if 0 < a + b then 1 else 0)) :: R
  | [b] => if st ≤ 7 then [if st = 7 then arg else fa st, b] else [1 - b]
  | [] => [if st = 7 then arg else fa st]
def eRun (fa f g : Int → Int) : Int → Nat → List Int → List Int
  | _, 0, V => V
  | i, n + 1, V => eRun fa f g (i + 1) n (eStep fa (f i) (g i) V)
def vOK : List Bool → List Int → Prop
  | [], [] => True
  | t :: T, v :: V => 0 ≤ v ∧ (t = true → v ≤ 1) ∧ vOK T V
  | _, _ => False
theorem vOK_len : ∀ {T : List Bool} {V : List Int}, vOK T V → T.length = V.length
  | [], [], _ => rfl
  | _ :: T, _ :: V, h => by rw [List.length_cons, List.length_cons, vOK_len h.2.2]
  | [], _ :: _, h => h.elim
  | _ :: _, [], h => h.elim
theorem vOK_sum : ∀ {T : List Bool} {V : List Int}, vOK T V → 0 ≤ V.sum
  | [], [], _ => Int.le_refl _
  | _ :: T, v :: V, h => by rw [List.sum_cons]; have := vOK_sum h.2.2; have := h.1; omega
  | [], _ :: _, h => h.elim
  | _ :: _, [], h => h.elim
theorem vOK_c {t : Bool} {T : List Bool} {V : List Int} (h : vOK (t :: T) V) : ∃ v R, V = v :: R ∧ 0 ≤ v ∧ (t = true → v ≤ 1) ∧ vOK T R := by
  cases V with
  | nil => exact h.elim
  | cons v R => exact ⟨v, R, rfl, h⟩
/-- a row of an array holds a stack -/
def aSt (row : Int → Int) : List Int → Prop
  | [] => True
  | v :: R => row R.length = v ∧ aSt row R
theorem aSt_up {row : Int → Int} {k v : Int} : ∀ {R : List Int}, (R.length : Int) ≤ k → aSt row R → aSt (wup row k v) R
  | [], _, _ => trivial
  | x :: R, h, hs => ⟨by rw [wup_ne _ _ (by rw [List.length_cons] at h; omega)]; exact hs.1, aSt_up (by rw [List.length_cons] at h; omega) hs.2⟩
theorem aSt_push {row : Int → Int} {k v : Int} {R : List Int} (h : (R.length : Int) = k) (hs : aSt row R) : aSt (wup row k v) (v :: R) := ⟨by rw [h]; exact wup_same _ _ _, aSt_up (by omega) hs⟩
theorem tStep_len {st : Int} {T T' : List Bool} (h : tStep st T T') (hl : T.length ≤ 60) : T'.length ≤ 60 := by
  rcases h with ⟨h1, h2, rfl⟩ | ⟨rfl, R, rfl, rfl⟩ | ⟨rfl, R, rfl, rfl⟩ | ⟨h1, R, rfl, rfl⟩ | ⟨h1, R, rfl, rfl⟩ <;> (simp only [List.length_cons] at *; omega)
theorem eStep_push {fa : Int → Int} {st arg : Int} (h : st ≤ 7) : ∀ {V : List Int}, eStep fa st arg V = (if st = 7 then arg else fa st) :: V
  | [] => rfl
  | [_] => if_pos h
  | _ :: _ :: _ => if_pos h
/-- what a step does to the values -/
theorem eStep_ok {fa : Int → Int} {st arg B : Int} {T T' : List Bool} {V : List Int} (h : tStep st T T') (hv : vOK T V) (hB : V.sum ≤ B) (hfa : ∀ k, 0 ≤ k → k ≤ 6 → 0 ≤ fa k ∧ fa k ≤ 100000 ∧ (k = 5 ∨ k = 6 → fa k ≤ 1)) (ha : st = 7 → 0 ≤ arg ∧ arg ≤ 999) : vOK T' (eStep fa st arg V) ∧ (eStep fa st arg V).sum ≤ B + 100000 := by
  rcases h with ⟨h1, h2, rfl⟩ | ⟨rfl, R, rfl, rfl⟩ | ⟨rfl, R, rfl, rfl⟩ | ⟨h1, R, rfl, rfl⟩ | ⟨h1, R, rfl, rfl⟩
  · rw [eStep_push h1.2]
    have hx : 0 ≤ (if st = 7 then arg else fa st) ∧ (if st = 7 then arg else fa st) ≤ 100000 ∧ ((st = 5 ∨ st = 6) → (if st = 7 then arg else fa st) ≤ 1) := by
      by_cases q : st = 7
      · rw [if_pos q]; have := ha q; exact ⟨by omega, by omega, by omega⟩
      · rw [if_neg q]; exact hfa st h1.1 (by omega)
    refine ⟨⟨hx.1, fun q => hx.2.2 (of_decide_eq_true q), hv⟩, ?_⟩
    rw [List.sum_cons]; omega
  · obtain ⟨b, V1, rfl, b0, b1, hv1⟩ := vOK_c hv
    have b2 := b1 rfl
    rw [List.sum_cons] at hB
    cases V1 with
    | nil => exact ⟨⟨by omega, fun _ => by omega, hv1⟩, by rw [show eStep fa 11 arg [b] = [1 - b] from rfl, List.sum_cons]; omega⟩
    | cons a V2 => exact ⟨⟨by omega, fun _ => by omega, hv1⟩, by rw [show eStep fa 11 arg (b :: a :: V2) = (1 - b) :: a :: V2 from rfl, List.sum_cons]; omega⟩
  · obtain ⟨b, V1, rfl, b0, b1, hv1⟩ := vOK_c hv
    obtain ⟨a, V2, rfl, a0, a1, hv2⟩ := vOK_c hv1
    rw [List.sum_cons, List.sum_cons] at hB
    rw [show eStep fa 8 arg (b :: a :: V2) = (a + b) :: V2 from rfl]
    exact ⟨⟨by omega, (fun q => by cases q), hv2⟩, by rw [List.sum_cons]; omega⟩
  · obtain ⟨b, V1, rfl, b0, b1, hv1⟩ := vOK_c hv
    obtain ⟨a, V2, rfl, a0, a1, hv2⟩ := vOK_c hv1
    rw [List.sum_cons, List.sum_cons] at hB
    have e : ∃ x, (x = 0 ∨ x = 1) ∧ eStep fa st arg (b :: a :: V2) = x :: V2 := by
      rcases h1 with rfl | rfl
      · exact ⟨_, by split <;> omega, rfl⟩
      · exact ⟨_, by split <;> omega, rfl⟩
    obtain ⟨x, hx, e⟩ := e
    rw [e]
    exact ⟨⟨by omega, fun _ => by omega, hv2⟩, by rw [List.sum_cons]; omega⟩
  · obtain ⟨b, V1, rfl, b0, b1, hv1⟩ := vOK_c hv
    obtain ⟨a, V2, rfl, a0, a1, hv2⟩ := vOK_c hv1
    rw [List.sum_cons, List.sum_cons] at hB
    have e : ∃ x, (x = 0 ∨ x = 1) ∧ eStep fa st arg (b :: a :: V2) = x :: V2 := by
      rcases h1 with rfl | rfl
      · exact ⟨_, by split <;> omega, rfl⟩
      · exact ⟨_, by split <;> omega, rfl⟩
    obtain ⟨x, hx, e⟩ := e
    rw [e]
    exact ⟨⟨by omega, fun _ => by omega, hv2⟩, by rw [List.sum_cons]; omega⟩
/-! ### the steps of a law in a row of the model -/
abbrev aStp (w : Int → Int) (i : Int) : Int := w (469 + 2 * i)
abbrev aArg (w : Int → Int) (i : Int) : Int := w (469 + 2 * i + 1)
def mFact (w : Int → Int) (p pain wet st : Int) : Int := if st = 0 then p else if st = 1 then pain else if st = 2 then aOf w p 1 else if st = 3 then aOf w p 0 else if st = 4 then w 3 else if st = 5 then wet else if w 3 % 7 = 6 then 1 else 0
def WfLn (w : Int → Int) (n : Int) : Prop := (0 ≤ w (421 + 4 * n + 2) ∧ w (421 + 4 * n + 2) ≤ w (421 + 4 * n + 3) ∧ w (421 + 4 * n + 3) ≤ 400) ∧ (w (421 + 4 * n) = 0 ∨ w (421 + 4 * n) = 1) ∧ (0 ≤ w (421 + 4 * n + 1) ∧ w (421 + 4 * n + 1) ≤ 99) ∧
  (∃ T, tRun (aStp w) (w (421 + 4 * n + 2)) (w (421 + 4 * n + 3) - w (421 + 4 * n + 2)).toNat [] T ∧ (T = [] ∨ T = [true])) ∧ ∀ i, w (421 + 4 * n + 2) ≤ i → i < w (421 + 4 * n + 3) → aStp w i = 7 → 0 ≤ aArg w i ∧ aArg w i ≤ 999
def WfLw (w : Int → Int) : Prop := (w 2 = 0 ∨ w 2 = 1) ∧ (w 2 = 1 → (0 ≤ w 420 ∧ w 420 ≤ 12) ∧ ∀ n, 0 ≤ n → n < w 420 → WfLn w n)
def mLine (w : Int → Int) (n p pain wet : Int) : List Int := eRun (mFact w p pain wet) (aStp w) (aArg w) (w (421 + 4 * n + 2)) (w (421 + 4 * n + 3) - w (421 + 4 * n + 2)).toNat []
abbrev mHolds (w : Int → Int) (n p pain wet : Int) : Prop := mLine w n p pain wet = [] ∨ mLine w n p pain wet = [1]
def mSum (w : Int → Int) (kind p pain wet : Int) : Int := jfold (fun n a => if w (421 + 4 * n) = kind ∧ mHolds w n p pain wet then a + w (421 + 4 * n + 1) else a) 0 (w 420).toNat
/-- what a law looks at is small -/
def vFact (w : Int → Int) (p pain wet : Int) : Prop := (0 ≤ p ∧ p < 8) ∧ (0 ≤ pain ∧ pain ≤ 100) ∧ (wet = 0 ∨ wet = 1) ∧ (0 ≤ aOf w p 1 ∧ aOf w p 1 ≤ 99999) ∧ (0 ≤ aOf w p 0 ∧ aOf w p 0 ≤ 99) ∧ (0 ≤ w 3 ∧ w 3 ≤ 9999)
theorem mFact_in {w : Int → Int} {p pain wet : Int} (h : vFact w p pain wet) : ∀ k, 0 ≤ k → k ≤ 6 → 0 ≤ mFact w p pain wet k ∧ mFact w p pain wet k ≤ 100000 ∧ (k = 5 ∨ k = 6 → mFact w p pain wet k ≤ 1) := by
  obtain ⟨h1, h2, h3, h4, h5, h6⟩ := h
  intro k hk0 hk1
  have : k = 0 ∨ k = 1 ∨ k = 2 ∨ k = 3 ∨ k = 4 ∨ k = 5 ∨ k = 6 := by omega
  rcases this with rfl | rfl | rfl | rfl | rfl | rfl | rfl
  · exact ⟨by show 0 ≤ p; omega, by show p ≤ 100000; omega, by omega⟩
  · exact ⟨by show 0 ≤ pain; omega, by show pain ≤ 100000; omega, by omega⟩
  · exact ⟨h4.1, by show aOf w p 1 ≤ 100000; omega, by omega⟩
  · exact ⟨h5.1, by show aOf w p 0 ≤ 100000; omega, by omega⟩
  · exact ⟨h6.1, by show w 3 ≤ 100000; omega, by omega⟩
  · exact ⟨by show 0 ≤ wet; omega, by show wet ≤ 100000; omega, fun _ => by show wet ≤ 1; omega⟩
  · refine ⟨?_, ?_, fun _ => ?_⟩ <;> (show _ ≤ _; unfold mFact; rw [if_neg (by decide), if_neg (by decide), if_neg (by decide), if_neg (by decide), if_neg (by decide), if_neg (by decide)]; split <;> decide)
section
variable {G : jzG} {d : Nat} {sh : List (Nat × Nat)} {I : Nat → Int → Int} {F : Nat → Int → Option Nat} {w : Int → Int}
theorem sm_factOf (hsh : ShOK sh) (hfx : FxOK F) {st n p : Int} (h0 : 0 ≤ st ∧ st ≤ 7) (hp : 0 ≤ p ∧ p < 8) (hw : I 170 19 = 0 ∨ I 170 19 = 1) (hd0 : 0 ≤ I 171 3 ∧ I 171 3 ≤ 9999) : jS G (d + 2) mX12_factOf [jR (some 170), jI st, jI n, jI p] (sh, I, F) 0 0 (rI (if st = 7 then n else mFact (I 171) p (I 170 18) (I 170 19) st) (sh, I, F)) := by
  refine jS_go [some (jR (some 170)), some (jI st), some (jI n), some (jI p)] (by decide +kernel) rfl (by simp [jone]) (Nat.le_of_ble_eq_true rfl) rfl (fun hok => ?_)
  refine j_iload_n dX12_factOf_0 rfl ?_
  have : st = 0 ∨ st = 1 ∨ st = 2 ∨ st = 3 ∨ st = 4 ∨ st = 5 ∨ st = 6 ∨ st = 7 := by omega
  rcases this with rfl | rfl | rfl | rfl | rfl | rfl | rfl | rfl
  · refine j_tswIn (tgt := 44) dX12_factOf_1 (by omega) (by decide) (by decide) rfl rfl ?_
    refine j_iload_n dX12_factOf_44 rfl ?_
    refine j_iret dX12_factOf_45 rfl ?_
    exact rI_of rfl rfl
  · refine j_tswIn (tgt := 46) dX12_factOf_1 (by omega) (by decide) (by decide) rfl rfl ?_
    refine j_aload_n dX12_factOf_46 rfl ?_
    refine r_getI dX12_factOf_47 flX12_256 (by first | assumption | exact hsh _ _ rfl) (fun b_47 => ?_)
    refine j_iret dX12_factOf_50 rfl ?_
    exact rI_of rfl rfl
  · refine j_tswIn (tgt := 51) dX12_factOf_1 (by omega) (by decide) (by decide) rfl rfl ?_
    refine j_aload_n dX12_factOf_51 rfl ?_
    refine j_iload_n dX12_factOf_52 rfl ?_
    refine j_iconst dX12_factOf_53 ?_
    refine r_cv2J dX12_factOf_54 cvX12_68 (by decide) (by first | assumption | exact hsh _ _ rfl) (Nat.le_of_ble_eq_true rfl) (Nat.le_of_eq (Nat.zero_add _)) (Nat.le_of_eq (Nat.zero_add _)) (sm_of hsh hfx (by omega)) (hok.2.1 171 _) (fun b_54 => ?_)
    refine j_iret dX12_factOf_57 rfl ?_
    exact rI_of rfl rfl
  · refine j_tswIn (tgt := 58) dX12_factOf_1 (by omega) (by decide) (by decide) rfl rfl ?_
    refine j_aload_n dX12_factOf_58 rfl ?_
    refine j_iload_n dX12_factOf_59 rfl ?_
    refine j_iconst dX12_factOf_60 ?_
    refine r_cv2J dX12_factOf_61 cvX12_68 (by decide) (by first | assumption | exact hsh _ _ rfl) (Nat.le_of_ble_eq_true rfl) (Nat.le_of_eq (Nat.zero_add _)) (Nat.le_of_eq (Nat.zero_add _)) (sm_of hsh hfx (by omega)) (hok.2.1 171 _) (fun b_61 => ?_)
    refine j_iret dX12_factOf_64 rfl ?_
    exact rI_of rfl rfl
  · refine j_tswIn (tgt := 65) dX12_factOf_1 (by omega) (by decide) (by decide) rfl rfl ?_
    refine j_aload_n dX12_factOf_65 rfl ?_
    refine r_getS dX12_factOf_66 flX12_13 (by first | assumption | exact hsh _ _ rfl) (fx_170_1 hfx) ?_
    refine j_iconst dX12_factOf_69 ?_
    refine r_iaload dX12_factOf_70 (by first | assumption | exact hsh _ _ rfl) (by first | omega | (split <;> omega)) (by first | omega | (split <;> omega)) (fun b_70 => ?_)
    refine j_iret dX12_factOf_71 rfl ?_
    exact rI_of rfl rfl
  · refine j_tswIn (tgt := 72) dX12_factOf_1 (by omega) (by decide) (by decide) rfl rfl ?_
    refine j_aload_n dX12_factOf_72 rfl ?_
    refine r_getI dX12_factOf_73 flX12_259 (by first | assumption | exact hsh _ _ rfl) (fun b_73 => ?_)
    refine j_if_eq (tgt := 83) dX12_factOf_76 rfl (by first | omega | (split <;> omega)) (fun c_76 => ?_) (fun c_76 => ?_)
    · refine j_iconst dX12_factOf_83 ?_
      refine j_iret dX12_factOf_84 rfl ?_
      exact rI_of (by show _ = I 170 19; omega) rfl
    · refine j_iconst dX12_factOf_79 ?_
      refine j_goto (tgt := 84) dX12_factOf_80 rfl ?_
      refine j_iret dX12_factOf_84 rfl ?_
      exact rI_of (by show _ = I 170 19; omega) rfl
  · refine j_tswIn (tgt := 85) dX12_factOf_1 (by omega) (by decide) (by decide) rfl rfl ?_
    refine j_aload_n dX12_factOf_85 rfl ?_
    refine r_getS dX12_factOf_86 flX12_13 (by first | assumption | exact hsh _ _ rfl) (fx_170_1 hfx) ?_
    refine j_iconst dX12_factOf_89 ?_
    refine r_iaload dX12_factOf_90 (by first | assumption | exact hsh _ _ rfl) (by first | omega | (split <;> omega)) (by first | omega | (split <;> omega)) (fun b_90 => ?_)
    refine j_bipush dX12_factOf_91 (by decide) ?_
    refine r_iremN dX12_factOf_93 (by first | omega | (split <;> omega)) (by first | omega | (split <;> omega)) ?_
    refine j_bipush dX12_factOf_94 (by decide) ?_
    refine j_icmp_ne (tgt := 103) dX12_factOf_96 rfl (by first | omega | (split <;> omega)) (by first | omega | (split <;> omega)) (fun c_96 => ?_) (fun c_96 => ?_)
    · refine j_iconst dX12_factOf_103 ?_
      refine j_iret dX12_factOf_104 rfl ?_
      exact rI_of (by show _ = if I 171 3 % 7 = 6 then (1 : Int) else 0; split <;> omega) rfl
    · refine j_iconst dX12_factOf_99 ?_
      refine j_goto (tgt := 104) dX12_factOf_100 rfl ?_
      refine j_iret dX12_factOf_104 rfl ?_
      exact rI_of (by show _ = if I 171 3 % 7 = 6 then (1 : Int) else 0; split <;> omega) rfl
  · refine j_tswOut (tgt := 105) dX12_factOf_1 (by omega) (by decide) rfl ?_
    refine j_iload_n dX12_factOf_105 rfl ?_
    refine j_iret dX12_factOf_106 rfl ?_
    exact rI_of rfl rfl
theorem sm_holdsLine (hsh : ShOK sh) (hfx : FxOK F) {n p : Int} (hn : 0 ≤ n ∧ n < 12) (hL : WfLn (I 171) n) (hv : vFact (I 171) p (I 170 18) (I 170 19)) : jS G (d + 3) mX12_holdsLine [jR (some 170), jI n, jI p] (sh, I, F) 0 0 (rEI (if mHolds (I 171) n p (I 170 18) (I 170 19) then 1 else 0) sh F (Fr1 178 I)) := by
  obtain ⟨w, hw⟩ : ∃ w, I 171 = w := ⟨_, rfl⟩
  obtain ⟨pain, hpn⟩ : ∃ x, I 170 18 = x := ⟨_, rfl⟩
  obtain ⟨wet, hwt⟩ : ∃ x, I 170 19 = x := ⟨_, rfl⟩
  rw [hw] at hL
  rw [hw, hpn, hwt] at hv ⊢
  obtain ⟨⟨l1, l2, l3⟩, l4, l5, ⟨T9, l6, l7⟩, l8⟩ := id hL
  have hfa := mFact_in hv
  obtain ⟨v1, v2, v3, v4, v5, v6⟩ := id hv
  refine jS_go [some (jR (some 170)), some (jI n), some (jI p), none, none, none, none, none, none, none] (by decide +kernel) rfl (by simp [jone]) (Nat.le_of_ble_eq_true rfl) rfl (fun hok => ?_)
  have key : ∀ (m : Nat) (i : Int) (T : List Bool) (V : List Int) (I' : Nat → Int → Int) (o6 o7 o8 o9 : Option jzV), i + m = w (421 + 4 * n + 3) → w (421 + 4 * n + 2) ≤ i → tRun (aStp w) i m T T9 → mLine w n p pain wet = eRun (mFact w p pain wet) (aStp w) (aArg w) i m V → vOK T V → T.length ≤ 60 → V.sum ≤ 100000 * (i - w (421 + 4 * n + 2)) → aSt (I' 178) V → Fr1 178 I I' → jW G mX12_holdsLine (d + 3) (rEI (if mHolds w n p pain wet then 1 else 0) sh F (Fr1 178 I)) 22 [some (jR (some 170)), some (jI n), some (jI p), some (jI V.length), some (jI (421 + 4 * n)), some (jI i), o6, o7, o8, o9] [] (sh, I', F) 0 0 := by
    intro m
    induction m with
    | zero =>
      intro i T V I' o6 o7 o8 o9 hi hi0 hT he hk hTl hB hst hfr
      have hw' : I' 171 = w := by rw [hfr 171 (by decide)]; exact hw
      have hlen := vOK_len hk
      have eT : T = T9 := hT
      subst eT
      have he2 : mLine w n p pain wet = V := he
      rcases l7 with rfl | rfl
      · cases V with
        | cons a b => exact hk.elim
        | nil =>
          refine j_iload dX12_holdsLine_22 rfl ?_
          refine j_aload_n dX12_holdsLine_24 rfl ?_
          refine r_getS dX12_holdsLine_25 flX12_13 (by first | assumption | exact hsh _ _ rfl) (fx_170_1 hfx) ?_
          refine j_iload dX12_holdsLine_28 rfl ?_
          refine j_iconst dX12_holdsLine_30 ?_
          refine j_iadd dX12_holdsLine_31 ?_
          refine r_ialoadE dX12_holdsLine_32 (by first | assumption | exact hsh _ _ rfl) (by first | omega | (split <;> omega)) (by first | omega | (split <;> omega)) (by rw [hw']) (fun b_32 => ?_)
          refine j_icmp_ge (tgt := 263) dX12_holdsLine_33 rfl (by first | omega | (split <;> omega)) (by first | omega | (split <;> omega)) (fun c_33 => ?_) (fun c_33 => by exact absurd (by omega) c_33)
          refine j_iload_n dX12_holdsLine_263 rfl ?_
          refine j_if_eq (tgt := 277) dX12_holdsLine_264 rfl (by decide) (fun c_264 => ?_) (fun c_264 => by exact absurd rfl c_264)
          refine j_iconst dX12_holdsLine_277 ?_
          refine j_goto (tgt := 282) dX12_holdsLine_278 rfl ?_
          refine j_zret dX12_holdsLine_282 rfl (by omega) ?_
          exact rEI_of (by rw [if_pos (Or.inl he2)]) hfr
      · obtain ⟨v, R, rfl, a0, a1, hk1⟩ := vOK_c hk
        cases R with
        | cons a b => exact hk1.elim
        | nil =>
          have hst0 : I' 178 0 = v := hst.1
          have a2 := a1 rfl
          rw [show (([v].length : Nat) : Int) = 1 from rfl]
          refine j_iload dX12_holdsLine_22 rfl ?_
          refine j_aload_n dX12_holdsLine_24 rfl ?_
          refine r_getS dX12_holdsLine_25 flX12_13 (by first | assumption | exact hsh _ _ rfl) (fx_170_1 hfx) ?_
          refine j_iload dX12_holdsLine_28 rfl ?_
          refine j_iconst dX12_holdsLine_30 ?_
          refine j_iadd dX12_holdsLine_31 ?_
          refine r_ialoadE dX12_holdsLine_32 (by first | assumption | exact hsh _ _ rfl) (by first | omega | (split <;> omega)) (by first | omega | (split <;> omega)) (by rw [hw']) (fun b_32 => ?_)
          refine j_icmp_ge (tgt := 263) dX12_holdsLine_33 rfl (by first | omega | (split <;> omega)) (by first | omega | (split <;> omega)) (fun c_33 => ?_) (fun c_33 => by exact absurd (by omega) c_33)
          refine j_iload_n dX12_holdsLine_263 rfl ?_
          refine j_if_eq (tgt := 277) dX12_holdsLine_264 rfl (by decide) (fun c_264 => by exact absurd c_264 (by decide)) (fun c_264 => ?_)
          refine j_aload_n dX12_holdsLine_267 rfl ?_
          refine r_getS dX12_holdsLine_268 flX12_39 (by first | assumption | exact hsh _ _ rfl) (fx_170_17 hfx) ?_
          refine j_iconst dX12_holdsLine_271 ?_
          refine r_ialoadE dX12_holdsLine_272 (by first | assumption | exact hsh _ _ rfl) (by first | omega | (split <;> omega)) (by first | omega | (split <;> omega)) hst0 (fun b_272 => ?_)
          refine j_iconst dX12_holdsLine_273 ?_
          refine j_icmp_ne (tgt := 281) dX12_holdsLine_274 rfl (by first | omega | (split <;> omega)) (by first | omega | (split <;> omega)) (fun c_274 => ?_) (fun c_274 => ?_)
          · refine j_iconst dX12_holdsLine_281 ?_
            refine j_zret dX12_holdsLine_282 rfl (by omega) ?_
            exact rEI_of (by first | rw [if_pos (Or.inr (by rw [he2, show v = 1 by omega]))] | rw [if_neg (fun z => z.elim (fun z => by rw [he2] at z; cases z) (fun z => by rw [he2] at z; cases z; omega))]) hfr
          · refine j_iconst dX12_holdsLine_277 ?_
            refine j_goto (tgt := 282) dX12_holdsLine_278 rfl ?_
            refine j_zret dX12_holdsLine_282 rfl (by omega) ?_
            exact rEI_of (by first | rw [if_pos (Or.inr (by rw [he2, show v = 1 by omega]))] | rw [if_neg (fun z => z.elim (fun z => by rw [he2] at z; cases z) (fun z => by rw [he2] at z; cases z; omega))]) hfr
    | succ m ih =>
      intro i T V I' o6 o7 o8 o9 hi hi0 hT he hk0 hTl hB hst hfr
      have hw' : I' 171 = w := by rw [hfr 171 (by decide)]; exact hw
      have hpn' : I' 170 18 = pain := by rw [hfr 170 (by decide)]; exact hpn
      have hwt' : I' 170 19 = wet := by rw [hfr 170 (by decide)]; exact hwt
      obtain ⟨T1, hT1, hT2⟩ := hT
      have harg := l8 i hi0 (by omega)
      have hT1l := tStep_len hT1 hTl
      have hk := eStep_ok hT1 hk0 hB hfa harg
      have hlen := vOK_len hk0
      have hsum := vOK_sum hk0
      have he' : mLine w n p pain wet = eRun (mFact w p pain wet) (aStp w) (aArg w) (i + 1) m (eStep (mFact w p pain wet) (aStp w i) (aArg w i) V) := he
      clear he
      obtain ⟨st, hst9⟩ : ∃ x, aStp w i = x := ⟨_, rfl⟩
      rw [hst9] at hT1 hk harg he'
      have q48 : I' 171 (469 + 2 * i) = st := by rw [hw']; exact hst9
      have hbig : 100000 * (i - w (421 + 4 * n + 2)) ≤ 40000000 := by omega
      rcases hT1 with ⟨h1, h2, rfl⟩ | ⟨rfl, R, rfl, rfl⟩ | ⟨rfl, R, rfl, rfl⟩ | ⟨h1, R, rfl, rfl⟩ | ⟨h1, R, rfl, rfl⟩
      · have hE : eStep (mFact w p pain wet) st (aArg w i) V = (if st = 7 then aArg w i else mFact w p pain wet st) :: V := eStep_push h1.2
        rw [hE] at hk he'
        have hx := hk.1.1
        have hsum2 := hk.2
        rw [List.sum_cons] at hsum2
        have q80 : I' 171 (469 + 2 * i + 1) = aArg w i := by rw [hw']
        have hspec := sm_factOf (G := G) (d := d) (I := I') hsh hfx (st := st) (n := aArg w i) (p := p) h1 v1 (by rw [hwt']; exact v3) (by rw [hw']; exact v6)
        rw [hw', hpn', hwt'] at hspec
        have ih2 := ih (i + 1) _ _ (jup I' 178 V.length (if st = 7 then aArg w i else mFact w p pain wet st)) (some (jI st)) o7 o8 o9 (by omega) (by omega) hT2 he' hk.1 hT1l (by omega) (by rw [jup_at]; exact aSt_push rfl hst) (Fr1_up hfr)
        rw [List.length_cons, Int.natCast_add] at ih2
        have ih3 : jW G mX12_holdsLine (d + 3) (rEI (if mHolds w n p pain wet then 1 else 0) sh F (Fr1 178 I)) 22 [some (jR (some 170)), some (jI n), some (jI p), some (jI ((V.length : Int) + 1)), some (jI (421 + 4 * n)), some (jI (i + 1)), some (jI st), o7, o8, o9] [] (sh, jup I' 178 V.length (if st = 7 then aArg w i else mFact w p pain wet st), F) 0 0 := ih2
        generalize hQ : rEI (if mHolds w n p pain wet then 1 else 0) sh F (Fr1 178 I) = Q9 at ih3 ⊢
        refine j_iload dX12_holdsLine_22 rfl ?_
        refine j_aload_n dX12_holdsLine_24 rfl ?_
        refine r_getS dX12_holdsLine_25 flX12_13 (by first | assumption | exact hsh _ _ rfl) (fx_170_1 hfx) ?_
        refine j_iload dX12_holdsLine_28 rfl ?_
        refine j_iconst dX12_holdsLine_30 ?_
        refine j_iadd dX12_holdsLine_31 ?_
        refine r_ialoadE dX12_holdsLine_32 (by first | assumption | exact hsh _ _ rfl) (by first | omega | (split <;> omega)) (by first | omega | (split <;> omega)) (by rw [hw']) (fun b_32 => ?_)
        refine j_icmp_ge (tgt := 263) dX12_holdsLine_33 rfl (by first | omega | (split <;> omega)) (by first | omega | (split <;> omega)) (fun c_33 => by exact absurd c_33 (by omega)) (fun c_33 => ?_)
        refine j_aload_n dX12_holdsLine_36 rfl ?_
        refine r_getS dX12_holdsLine_37 flX12_13 (by first | assumption | exact hsh _ _ rfl) (fx_170_1 hfx) ?_
        refine j_sipush dX12_holdsLine_40 (by decide) ?_
        refine j_iconst dX12_holdsLine_43 ?_
        refine j_iload dX12_holdsLine_44 rfl ?_
        refine j_imul dX12_holdsLine_46 ?_
        refine j_iadd dX12_holdsLine_47 ?_
        refine r_ialoadE dX12_holdsLine_48 (by first | assumption | exact hsh _ _ rfl) (by first | omega | (split <;> omega)) (by first | omega | (split <;> omega)) q48 (fun b_48 => ?_)
        refine j_istore dX12_holdsLine_49 (by decide) ?_
        refine j_iload dX12_holdsLine_51 rfl ?_
        refine j_bipush dX12_holdsLine_53 (by decide) ?_
        refine j_icmp_gt (tgt := 92) dX12_holdsLine_55 rfl (by first | omega | (split <;> omega)) (by first | omega | (split <;> omega)) (fun c_55 => by exact absurd c_55 (by omega)) (fun c_55 => ?_)
        refine j_aload_n dX12_holdsLine_58 rfl ?_
        refine r_getS dX12_holdsLine_59 flX12_39 (by first | assumption | exact hsh _ _ rfl) (fx_170_17 hfx) ?_
        refine j_iload_n dX12_holdsLine_62 rfl ?_
        refine j_aload_n dX12_holdsLine_63 rfl ?_
        refine j_iload dX12_holdsLine_64 rfl ?_
        refine j_aload_n dX12_holdsLine_66 rfl ?_
        refine r_getS dX12_holdsLine_67 flX12_13 (by first | assumption | exact hsh _ _ rfl) (fx_170_1 hfx) ?_
        refine j_sipush dX12_holdsLine_70 (by decide) ?_
        refine j_iconst dX12_holdsLine_73 ?_
        refine j_iload dX12_holdsLine_74 rfl ?_
        refine j_imul dX12_holdsLine_76 ?_
        refine j_iadd dX12_holdsLine_77 ?_
        refine j_iconst dX12_holdsLine_78 ?_
        refine j_iadd dX12_holdsLine_79 ?_
        refine r_ialoadE dX12_holdsLine_80 (by first | assumption | exact hsh _ _ rfl) (by first | omega | (split <;> omega)) (by first | omega | (split <;> omega)) q80 (fun b_80 => ?_)
        refine j_iload_n dX12_holdsLine_81 rfl ?_
        refine r_cv3I dX12_holdsLine_82 cvX12_262 (by decide) (by first | assumption | exact hsh _ _ rfl) (Nat.le_of_ble_eq_true rfl) (Nat.le_of_eq (Nat.zero_add _)) (Nat.le_of_eq (Nat.zero_add _)) (hspec) ?_
        refine r_iastore dX12_holdsLine_85 (by first | assumption | exact hsh _ _ rfl) (by first | omega | (split <;> omega)) (by first | omega | (split <;> omega)) (by first | omega | (split <;> omega)) ?_
        refine j_iinc dX12_holdsLine_86 rfl (by decide) ?_
        refine j_goto (tgt := 257) dX12_holdsLine_89 rfl ?_
        refine j_iinc dX12_holdsLine_257 rfl (by decide) ?_
        refine j_goto (tgt := 22) dX12_holdsLine_260 rfl ?_
        exact ih3
      · obtain ⟨b, V1, rfl, b0, b1, hk1⟩ := vOK_c hk0
        have hE : eStep (mFact w p pain wet) 11 (aArg w i) (b :: V1) = (1 - b) :: V1 := by
          cases V1 <;> rfl
        rw [hE] at hk he'
        have b2 := b1 rfl
        have hsum2 := hk.2
        rw [List.sum_cons] at hsum2
        have q1 : I' 178 ((((b :: V1).length : Nat) : Int) - 1) = b := by rw [List.length_cons, show ((V1.length + 1 : Nat) : Int) - 1 = (V1.length : Int) by omega]; exact hst.1
        have ih2 := ih (i + 1) _ _ (jup I' 178 ((((b :: V1).length : Nat) : Int) - 1) (1 - b)) (some (jI 11)) o7 o8 o9 (by omega) (by omega) hT2 he' hk.1 hT1l (by omega) (by rw [jup_at]; exact aSt_push (by rw [List.length_cons]; omega) hst.2) (Fr1_up hfr)
        have hl2 : (((b :: V1).length : Nat) : Int) ≤ 60 ∧ 1 ≤ (((b :: V1).length : Nat) : Int) := ⟨by omega, by rw [List.length_cons]; omega⟩
        rw [show ((1 - b) :: V1).length = (b :: V1).length from rfl] at ih2
        generalize hQ : rEI (if mHolds w n p pain wet then 1 else 0) sh F (Fr1 178 I) = Q9 at ih2 ⊢
        generalize (((b :: V1).length : Nat) : Int) = top at *
        refine j_iload dX12_holdsLine_22 rfl ?_
        refine j_aload_n dX12_holdsLine_24 rfl ?_
        refine r_getS dX12_holdsLine_25 flX12_13 (by first | assumption | exact hsh _ _ rfl) (fx_170_1 hfx) ?_
        refine j_iload dX12_holdsLine_28 rfl ?_
        refine j_iconst dX12_holdsLine_30 ?_
        refine j_iadd dX12_holdsLine_31 ?_
        refine r_ialoadE dX12_holdsLine_32 (by first | assumption | exact hsh _ _ rfl) (by first | omega | (split <;> omega)) (by first | omega | (split <;> omega)) (by rw [hw']) (fun b_32 => ?_)
        refine j_icmp_ge (tgt := 263) dX12_holdsLine_33 rfl (by first | omega | (split <;> omega)) (by first | omega | (split <;> omega)) (fun c_33 => by exact absurd c_33 (by omega)) (fun c_33 => ?_)
        refine j_aload_n dX12_holdsLine_36 rfl ?_
        refine r_getS dX12_holdsLine_37 flX12_13 (by first | assumption | exact hsh _ _ rfl) (fx_170_1 hfx) ?_
        refine j_sipush dX12_holdsLine_40 (by decide) ?_
        refine j_iconst dX12_holdsLine_43 ?_
        refine j_iload dX12_holdsLine_44 rfl ?_
        refine j_imul dX12_holdsLine_46 ?_
        refine j_iadd dX12_holdsLine_47 ?_
        refine r_ialoadE dX12_holdsLine_48 (by first | assumption | exact hsh _ _ rfl) (by first | omega | (split <;> omega)) (by first | omega | (split <;> omega)) q48 (fun b_48 => ?_)
        refine j_istore dX12_holdsLine_49 (by decide) ?_
        refine j_iload dX12_holdsLine_51 rfl ?_
        refine j_bipush dX12_holdsLine_53 (by decide) ?_
        refine j_icmp_gt (tgt := 92) dX12_holdsLine_55 rfl (by first | omega | (split <;> omega)) (by first | omega | (split <;> omega)) (fun c_55 => ?_) (fun c_55 => by exact absurd (by omega) c_55)
        refine j_iload dX12_holdsLine_92 rfl ?_
        refine j_bipush dX12_holdsLine_94 (by decide) ?_
        refine j_icmp_ne (tgt := 120) dX12_holdsLine_96 rfl (by first | omega | (split <;> omega)) (by first | omega | (split <;> omega)) (fun c_96 => by exact absurd rfl c_96) (fun c_96 => ?_)
        refine j_aload_n dX12_holdsLine_99 rfl ?_
        refine r_getS dX12_holdsLine_100 flX12_39 (by first | assumption | exact hsh _ _ rfl) (fx_170_17 hfx) ?_
        refine j_iload_n dX12_holdsLine_103 rfl ?_
        refine j_iconst dX12_holdsLine_104 ?_
        refine j_isub dX12_holdsLine_105 ?_
        refine j_iconst dX12_holdsLine_106 ?_
        refine j_aload_n dX12_holdsLine_107 rfl ?_
        refine r_getS dX12_holdsLine_108 flX12_39 (by first | assumption | exact hsh _ _ rfl) (fx_170_17 hfx) ?_
        refine j_iload_n dX12_holdsLine_111 rfl ?_
        refine j_iconst dX12_holdsLine_112 ?_
        refine j_isub dX12_holdsLine_113 ?_
        refine r_ialoadE dX12_holdsLine_114 (by first | assumption | exact hsh _ _ rfl) (by first | omega | (split <;> omega)) (by first | omega | (split <;> omega)) q1 (fun b_114 => ?_)
        refine j_isub dX12_holdsLine_115 ?_
        refine r_iastore dX12_holdsLine_116 (by first | assumption | exact hsh _ _ rfl) (by first | omega | (split <;> omega)) (by first | omega | (split <;> omega)) (by first | omega | (split <;> omega)) ?_
        refine j_goto (tgt := 257) dX12_holdsLine_117 rfl ?_
        refine j_iinc dX12_holdsLine_257 rfl (by decide) ?_
        refine j_goto (tgt := 22) dX12_holdsLine_260 rfl ?_
        exact ih2
      · obtain ⟨b, V1, rfl, b0, b1, hk1⟩ := vOK_c hk0
        obtain ⟨a, V2, rfl, a0, a1, hk2⟩ := vOK_c hk1
        have hE : eStep (mFact w p pain wet) 8 (aArg w i) (b :: a :: V2) = (a + b) :: V2 := rfl
        rw [hE] at hk he'
        have hsum2 := hk.2
        have hv2 := vOK_sum hk2
        have hx := hk.1.1
        rw [List.sum_cons] at hsum2
        rw [List.sum_cons, List.sum_cons] at hB
        have q1 : I' 178 ((((b :: a :: V2).length : Nat) : Int) - 1 - 1) = a := by rw [List.length_cons, List.length_cons, show ((V2.length + 1 + 1 : Nat) : Int) - 1 - 1 = (V2.length : Int) by omega]; exact hst.2.1
        have q2 : I' 178 ((((b :: a :: V2).length : Nat) : Int) - 1) = b := by rw [List.length_cons, show (((a :: V2).length + 1 : Nat) : Int) - 1 = ((a :: V2).length : Int) by omega]; exact hst.1
        have ih2 := fun z1 z2 z3 => ih (i + 1) _ _ (jup I' 178 ((((b :: a :: V2).length : Nat) : Int) - 1 - 1) ((a + b))) (some (jI 8)) z1 z2 z3 (by omega) (by omega) hT2 he' hk.1 hT1l (by omega) (by rw [jup_at]; exact aSt_push (by rw [List.length_cons, List.length_cons]; omega) hst.2.2) (Fr1_up hfr)
        have hl2 : (((b :: a :: V2).length : Nat) : Int) ≤ 60 ∧ 2 ≤ (((b :: a :: V2).length : Nat) : Int) := ⟨by omega, by rw [List.length_cons, List.length_cons]; omega⟩
        rw [show (((((a + b)) :: V2).length : Nat) : Int) = (((b :: a :: V2).length : Nat) : Int) - 1 by rw [List.length_cons, List.length_cons, List.length_cons]; omega] at ih2
        generalize hQ : rEI (if mHolds w n p pain wet then 1 else 0) sh F (Fr1 178 I) = Q9 at ih2 ⊢
        generalize (((b :: a :: V2).length : Nat) : Int) = top at *
        clear hk he' hE hk0 hk1
        refine j_iload dX12_holdsLine_22 rfl ?_
        refine j_aload_n dX12_holdsLine_24 rfl ?_
        refine r_getS dX12_holdsLine_25 flX12_13 (by first | assumption | exact hsh _ _ rfl) (fx_170_1 hfx) ?_
        refine j_iload dX12_holdsLine_28 rfl ?_
        refine j_iconst dX12_holdsLine_30 ?_
        refine j_iadd dX12_holdsLine_31 ?_
        refine r_ialoadE dX12_holdsLine_32 (by first | assumption | exact hsh _ _ rfl) (by first | omega | (split <;> omega)) (by first | omega | (split <;> omega)) (by rw [hw']) (fun b_32 => ?_)
        refine j_icmp_ge (tgt := 263) dX12_holdsLine_33 rfl (by first | omega | (split <;> omega)) (by first | omega | (split <;> omega)) (fun c_33 => by exact absurd c_33 (by omega)) (fun c_33 => ?_)
        refine j_aload_n dX12_holdsLine_36 rfl ?_
        refine r_getS dX12_holdsLine_37 flX12_13 (by first | assumption | exact hsh _ _ rfl) (fx_170_1 hfx) ?_
        refine j_sipush dX12_holdsLine_40 (by decide) ?_
        refine j_iconst dX12_holdsLine_43 ?_
        refine j_iload dX12_holdsLine_44 rfl ?_
        refine j_imul dX12_holdsLine_46 ?_
        refine j_iadd dX12_holdsLine_47 ?_
        refine r_ialoadE dX12_holdsLine_48 (by first | assumption | exact hsh _ _ rfl) (by first | omega | (split <;> omega)) (by first | omega | (split <;> omega)) q48 (fun b_48 => ?_)
        refine j_istore dX12_holdsLine_49 (by decide) ?_
        refine j_iload dX12_holdsLine_51 rfl ?_
        refine j_bipush dX12_holdsLine_53 (by decide) ?_
        refine j_icmp_gt (tgt := 92) dX12_holdsLine_55 rfl (by first | omega | (split <;> omega)) (by first | omega | (split <;> omega)) (fun c_55 => ?_) (fun c_55 => by exact absurd (by omega) c_55)
        refine j_iload dX12_holdsLine_92 rfl ?_
        refine j_bipush dX12_holdsLine_94 (by decide) ?_
        refine j_icmp_ne (tgt := 120) dX12_holdsLine_96 rfl (by first | omega | (split <;> omega)) (by first | omega | (split <;> omega)) (fun c_96 => ?_) (fun c_96 => by exact absurd (by decide) c_96)
        refine j_iinc dX12_holdsLine_120 rfl (by decide) ?_
        refine j_aload_n dX12_holdsLine_123 rfl ?_
        refine r_getS dX12_holdsLine_124 flX12_39 (by first | assumption | exact hsh _ _ rfl) (fx_170_17 hfx) ?_
        refine j_iload_n dX12_holdsLine_127 rfl ?_
        refine j_iconst dX12_holdsLine_128 ?_
        refine j_isub dX12_holdsLine_129 ?_
        refine r_ialoadE dX12_holdsLine_130 (by first | assumption | exact hsh _ _ rfl) (by first | omega | (split <;> omega)) (by first | omega | (split <;> omega)) q1 (fun b_130 => ?_)
        refine j_istore dX12_holdsLine_131 (by decide) ?_
        refine j_aload_n dX12_holdsLine_133 rfl ?_
        refine r_getS dX12_holdsLine_134 flX12_39 (by first | assumption | exact hsh _ _ rfl) (fx_170_17 hfx) ?_
        refine j_iload_n dX12_holdsLine_137 rfl ?_
        refine r_ialoadE dX12_holdsLine_138 (by first | assumption | exact hsh _ _ rfl) (by first | omega | (split <;> omega)) (by first | omega | (split <;> omega)) q2 (fun b_138 => ?_)
        refine j_istore dX12_holdsLine_139 (by decide) ?_
        refine j_iload dX12_holdsLine_141 rfl ?_
        refine j_bipush dX12_holdsLine_143 (by decide) ?_
        refine j_icmp_ne (tgt := 163) dX12_holdsLine_145 rfl (by first | omega | (split <;> omega)) (by first | omega | (split <;> omega)) (fun c_145 => ?_) (fun c_145 => by exact absurd c_145 (by decide))
        refine j_iload dX12_holdsLine_163 rfl ?_
        refine j_bipush dX12_holdsLine_165 (by decide) ?_
        refine j_icmp_ne (tgt := 185) dX12_holdsLine_167 rfl (by first | omega | (split <;> omega)) (by first | omega | (split <;> omega)) (fun c_167 => ?_) (fun c_167 => by exact absurd c_167 (by decide))
        refine j_iload dX12_holdsLine_185 rfl ?_
        refine j_bipush dX12_holdsLine_187 (by decide) ?_
        refine j_icmp_ne (tgt := 209) dX12_holdsLine_189 rfl (by first | omega | (split <;> omega)) (by first | omega | (split <;> omega)) (fun c_189 => ?_) (fun c_189 => by exact absurd c_189 (by decide))
        refine j_iload dX12_holdsLine_209 rfl ?_
        refine j_iload dX12_holdsLine_211 rfl ?_
        refine j_iadd dX12_holdsLine_213 ?_
        refine j_if_le (tgt := 221) dX12_holdsLine_214 rfl (by first | omega | (split <;> omega)) (fun c_214 => ?_) (fun c_214 => ?_)
        · refine j_iconst dX12_holdsLine_221 ?_
          refine j_istore dX12_holdsLine_222 (by decide) ?_
          refine j_aload_n dX12_holdsLine_224 rfl ?_
          refine r_getS dX12_holdsLine_225 flX12_39 (by first | assumption | exact hsh _ _ rfl) (fx_170_17 hfx) ?_
          refine j_iload_n dX12_holdsLine_228 rfl ?_
          refine j_iconst dX12_holdsLine_229 ?_
          refine j_isub dX12_holdsLine_230 ?_
          refine j_iload dX12_holdsLine_231 rfl ?_
          refine j_bipush dX12_holdsLine_233 (by decide) ?_
          refine j_icmp_ne (tgt := 246) dX12_holdsLine_235 rfl (by first | omega | (split <;> omega)) (by first | omega | (split <;> omega)) (fun c_235 => by exact absurd rfl c_235) (fun c_235 => ?_)
          refine j_iload dX12_holdsLine_238 rfl ?_
          refine j_iload dX12_holdsLine_240 rfl ?_
          refine j_iadd dX12_holdsLine_242 ?_
          refine j_goto (tgt := 256) dX12_holdsLine_243 rfl ?_
          refine r_iastore dX12_holdsLine_256 (by first | assumption | exact hsh _ _ rfl) (by first | omega | (split <;> omega)) (by first | omega | (split <;> omega)) (by first | omega | (split <;> omega)) ?_
          refine j_iinc dX12_holdsLine_257 rfl (by decide) ?_
          refine j_goto (tgt := 22) dX12_holdsLine_260 rfl ?_
          exact ih2 _ _ _
        · refine j_iconst dX12_holdsLine_217 ?_
          refine j_goto (tgt := 222) dX12_holdsLine_218 rfl ?_
          refine j_istore dX12_holdsLine_222 (by decide) ?_
          refine j_aload_n dX12_holdsLine_224 rfl ?_
          refine r_getS dX12_holdsLine_225 flX12_39 (by first | assumption | exact hsh _ _ rfl) (fx_170_17 hfx) ?_
          refine j_iload_n dX12_holdsLine_228 rfl ?_
          refine j_iconst dX12_holdsLine_229 ?_
          refine j_isub dX12_holdsLine_230 ?_
          refine j_iload dX12_holdsLine_231 rfl ?_
          refine j_bipush dX12_holdsLine_233 (by decide) ?_
          refine j_icmp_ne (tgt := 246) dX12_holdsLine_235 rfl (by first | omega | (split <;> omega)) (by first | omega | (split <;> omega)) (fun c_235 => by exact absurd rfl c_235) (fun c_235 => ?_)
          refine j_iload dX12_holdsLine_238 rfl ?_
          refine j_iload dX12_holdsLine_240 rfl ?_
          refine j_iadd dX12_holdsLine_242 ?_
          refine j_goto (tgt := 256) dX12_holdsLine_243 rfl ?_
          refine r_iastore dX12_holdsLine_256 (by first | assumption | exact hsh _ _ rfl) (by first | omega | (split <;> omega)) (by first | omega | (split <;> omega)) (by first | omega | (split <;> omega)) ?_
          refine j_iinc dX12_holdsLine_257 rfl (by decide) ?_
          refine j_goto (tgt := 22) dX12_holdsLine_260 rfl ?_
          exact ih2 _ _ _
      · rcases h1 with rfl | rfl
        · obtain ⟨b, V1, rfl, b0, b1, hk1⟩ := vOK_c hk0
          obtain ⟨a, V2, rfl, a0, a1, hk2⟩ := vOK_c hk1
          have hE : eStep (mFact w p pain wet) 9 (aArg w i) (b :: a :: V2) = (if a < b then 1 else 0) :: V2 := rfl
          rw [hE] at hk he'
          have hsum2 := hk.2
          have hv2 := vOK_sum hk2
          have hx := hk.1.1
          rw [List.sum_cons] at hsum2
          rw [List.sum_cons, List.sum_cons] at hB
          have q1 : I' 178 ((((b :: a :: V2).length : Nat) : Int) - 1 - 1) = a := by rw [List.length_cons, List.length_cons, show ((V2.length + 1 + 1 : Nat) : Int) - 1 - 1 = (V2.length : Int) by omega]; exact hst.2.1
          have q2 : I' 178 ((((b :: a :: V2).length : Nat) : Int) - 1) = b := by rw [List.length_cons, show (((a :: V2).length + 1 : Nat) : Int) - 1 = ((a :: V2).length : Int) by omega]; exact hst.1
          have ih2 := fun z1 z2 z3 => ih (i + 1) _ _ (jup I' 178 ((((b :: a :: V2).length : Nat) : Int) - 1 - 1) ((if a < b then 1 else 0))) (some (jI 9)) z1 z2 z3 (by omega) (by omega) hT2 he' hk.1 hT1l (by omega) (by rw [jup_at]; exact aSt_push (by rw [List.length_cons, List.length_cons]; omega) hst.2.2) (Fr1_up hfr)
          have hl2 : (((b :: a :: V2).length : Nat) : Int) ≤ 60 ∧ 2 ≤ (((b :: a :: V2).length : Nat) : Int) := ⟨by omega, by rw [List.length_cons, List.length_cons]; omega⟩
          rw [show (((((if a < b then 1 else 0)) :: V2).length : Nat) : Int) = (((b :: a :: V2).length : Nat) : Int) - 1 by rw [List.length_cons, List.length_cons, List.length_cons]; omega] at ih2
          generalize hQ : rEI (if mHolds w n p pain wet then 1 else 0) sh F (Fr1 178 I) = Q9 at ih2 ⊢
          generalize (((b :: a :: V2).length : Nat) : Int) = top at *
          clear hk he' hE hk0 hk1
          refine j_iload dX12_holdsLine_22 rfl ?_
          refine j_aload_n dX12_holdsLine_24 rfl ?_
          refine r_getS dX12_holdsLine_25 flX12_13 (by first | assumption | exact hsh _ _ rfl) (fx_170_1 hfx) ?_
          refine j_iload dX12_holdsLine_28 rfl ?_
          refine j_iconst dX12_holdsLine_30 ?_
          refine j_iadd dX12_holdsLine_31 ?_
          refine r_ialoadE dX12_holdsLine_32 (by first | assumption | exact hsh _ _ rfl) (by first | omega | (split <;> omega)) (by first | omega | (split <;> omega)) (by rw [hw']) (fun b_32 => ?_)
          refine j_icmp_ge (tgt := 263) dX12_holdsLine_33 rfl (by first | omega | (split <;> omega)) (by first | omega | (split <;> omega)) (fun c_33 => by exact absurd c_33 (by omega)) (fun c_33 => ?_)
          refine j_aload_n dX12_holdsLine_36 rfl ?_
          refine r_getS dX12_holdsLine_37 flX12_13 (by first | assumption | exact hsh _ _ rfl) (fx_170_1 hfx) ?_
          refine j_sipush dX12_holdsLine_40 (by decide) ?_
          refine j_iconst dX12_holdsLine_43 ?_
          refine j_iload dX12_holdsLine_44 rfl ?_
          refine j_imul dX12_holdsLine_46 ?_
          refine j_iadd dX12_holdsLine_47 ?_
          refine r_ialoadE dX12_holdsLine_48 (by first | assumption | exact hsh _ _ rfl) (by first | omega | (split <;> omega)) (by first | omega | (split <;> omega)) q48 (fun b_48 => ?_)
          refine j_istore dX12_holdsLine_49 (by decide) ?_
          refine j_iload dX12_holdsLine_51 rfl ?_
          refine j_bipush dX12_holdsLine_53 (by decide) ?_
          refine j_icmp_gt (tgt := 92) dX12_holdsLine_55 rfl (by first | omega | (split <;> omega)) (by first | omega | (split <;> omega)) (fun c_55 => ?_) (fun c_55 => by exact absurd (by omega) c_55)
          refine j_iload dX12_holdsLine_92 rfl ?_
          refine j_bipush dX12_holdsLine_94 (by decide) ?_
          refine j_icmp_ne (tgt := 120) dX12_holdsLine_96 rfl (by first | omega | (split <;> omega)) (by first | omega | (split <;> omega)) (fun c_96 => ?_) (fun c_96 => by exact absurd (by decide) c_96)
          refine j_iinc dX12_holdsLine_120 rfl (by decide) ?_
          refine j_aload_n dX12_holdsLine_123 rfl ?_
          refine r_getS dX12_holdsLine_124 flX12_39 (by first | assumption | exact hsh _ _ rfl) (fx_170_17 hfx) ?_
          refine j_iload_n dX12_holdsLine_127 rfl ?_
          refine j_iconst dX12_holdsLine_128 ?_
          refine j_isub dX12_holdsLine_129 ?_
          refine r_ialoadE dX12_holdsLine_130 (by first | assumption | exact hsh _ _ rfl) (by first | omega | (split <;> omega)) (by first | omega | (split <;> omega)) q1 (fun b_130 => ?_)
          refine j_istore dX12_holdsLine_131 (by decide) ?_
          refine j_aload_n dX12_holdsLine_133 rfl ?_
          refine r_getS dX12_holdsLine_134 flX12_39 (by first | assumption | exact hsh _ _ rfl) (fx_170_17 hfx) ?_
          refine j_iload_n dX12_holdsLine_137 rfl ?_
          refine r_ialoadE dX12_holdsLine_138 (by first | assumption | exact hsh _ _ rfl) (by first | omega | (split <;> omega)) (by first | omega | (split <;> omega)) q2 (fun b_138 => ?_)
          refine j_istore dX12_holdsLine_139 (by decide) ?_
          refine j_iload dX12_holdsLine_141 rfl ?_
          refine j_bipush dX12_holdsLine_143 (by decide) ?_
          refine j_icmp_ne (tgt := 163) dX12_holdsLine_145 rfl (by first | omega | (split <;> omega)) (by first | omega | (split <;> omega)) (fun c_145 => by exact absurd rfl c_145) (fun c_145 => ?_)
          refine j_iload dX12_holdsLine_148 rfl ?_
          refine j_iload dX12_holdsLine_150 rfl ?_
          refine j_icmp_ge (tgt := 159) dX12_holdsLine_152 rfl (by first | omega | (split <;> omega)) (by first | omega | (split <;> omega)) (fun c_152 => ?_) (fun c_152 => ?_)
          · refine j_iconst dX12_holdsLine_159 ?_
            refine j_goto (tgt := 222) dX12_holdsLine_160 rfl ?_
            refine j_istore dX12_holdsLine_222 (by decide) ?_
            refine j_aload_n dX12_holdsLine_224 rfl ?_
            refine r_getS dX12_holdsLine_225 flX12_39 (by first | assumption | exact hsh _ _ rfl) (fx_170_17 hfx) ?_
            refine j_iload_n dX12_holdsLine_228 rfl ?_
            refine j_iconst dX12_holdsLine_229 ?_
            refine j_isub dX12_holdsLine_230 ?_
            refine j_iload dX12_holdsLine_231 rfl ?_
            refine j_bipush dX12_holdsLine_233 (by decide) ?_
            refine j_icmp_ne (tgt := 246) dX12_holdsLine_235 rfl (by first | omega | (split <;> omega)) (by first | omega | (split <;> omega)) (fun c_235 => ?_) (fun c_235 => by exact absurd c_235 (by decide))
            refine j_iload dX12_holdsLine_246 rfl ?_
            refine j_if_eq (tgt := 255) dX12_holdsLine_248 rfl (by first | omega | (split <;> omega)) (fun c_248 => ?_) (fun c_248 => ?_)
            · refine j_iconst dX12_holdsLine_255 ?_
              refine r_iastore dX12_holdsLine_256 (by first | assumption | exact hsh _ _ rfl) (by first | omega | (split <;> omega)) (by first | omega | (split <;> omega)) (by first | omega | (split <;> omega)) ?_
              refine j_iinc dX12_holdsLine_257 rfl (by decide) ?_
              refine j_goto (tgt := 22) dX12_holdsLine_260 rfl ?_
              first | (rw [if_pos (show a < b by omega)] at ih2; exact ih2 _ _ _) | (rw [if_neg (show ¬ (a < b) by omega)] at ih2; exact ih2 _ _ _)
            · refine j_iconst dX12_holdsLine_251 ?_
              refine j_goto (tgt := 256) dX12_holdsLine_252 rfl ?_
              refine r_iastore dX12_holdsLine_256 (by first | assumption | exact hsh _ _ rfl) (by first | omega | (split <;> omega)) (by first | omega | (split <;> omega)) (by first | omega | (split <;> omega)) ?_
              refine j_iinc dX12_holdsLine_257 rfl (by decide) ?_
              refine j_goto (tgt := 22) dX12_holdsLine_260 rfl ?_
              first | (rw [if_pos (show a < b by omega)] at ih2; exact ih2 _ _ _) | (rw [if_neg (show ¬ (a < b) by omega)] at ih2; exact ih2 _ _ _)
          · refine j_iconst dX12_holdsLine_155 ?_
            refine j_goto (tgt := 222) dX12_holdsLine_156 rfl ?_
            refine j_istore dX12_holdsLine_222 (by decide) ?_
            refine j_aload_n dX12_holdsLine_224 rfl ?_
            refine r_getS dX12_holdsLine_225 flX12_39 (by first | assumption | exact hsh _ _ rfl) (fx_170_17 hfx) ?_
            refine j_iload_n dX12_holdsLine_228 rfl ?_
            refine j_iconst dX12_holdsLine_229 ?_
            refine j_isub dX12_holdsLine_230 ?_
            refine j_iload dX12_holdsLine_231 rfl ?_
            refine j_bipush dX12_holdsLine_233 (by decide) ?_
            refine j_icmp_ne (tgt := 246) dX12_holdsLine_235 rfl (by first | omega | (split <;> omega)) (by first | omega | (split <;> omega)) (fun c_235 => ?_) (fun c_235 => by exact absurd c_235 (by decide))
            refine j_iload dX12_holdsLine_246 rfl ?_
            refine j_if_eq (tgt := 255) dX12_holdsLine_248 rfl (by first | omega | (split <;> omega)) (fun c_248 => ?_) (fun c_248 => ?_)
            · refine j_iconst dX12_holdsLine_255 ?_
              refine r_iastore dX12_holdsLine_256 (by first | assumption | exact hsh _ _ rfl) (by first | omega | (split <;> omega)) (by first | omega | (split <;> omega)) (by first | omega | (split <;> omega)) ?_
              refine j_iinc dX12_holdsLine_257 rfl (by decide) ?_
              refine j_goto (tgt := 22) dX12_holdsLine_260 rfl ?_
              first | (rw [if_pos (show a < b by omega)] at ih2; exact ih2 _ _ _) | (rw [if_neg (show ¬ (a < b) by omega)] at ih2; exact ih2 _ _ _)
            · refine j_iconst dX12_holdsLine_251 ?_
              refine j_goto (tgt := 256) dX12_holdsLine_252 rfl ?_
              refine r_iastore dX12_holdsLine_256 (by first | assumption | exact hsh _ _ rfl) (by first | omega | (split <;> omega)) (by first | omega | (split <;> omega)) (by first | omega | (split <;> omega)) ?_
              refine j_iinc dX12_holdsLine_257 rfl (by decide) ?_
              refine j_goto (tgt := 22) dX12_holdsLine_260 rfl ?_
              first | (rw [if_pos (show a < b by omega)] at ih2; exact ih2 _ _ _) | (rw [if_neg (show ¬ (a < b) by omega)] at ih2; exact ih2 _ _ _)
        · obtain ⟨b, V1, rfl, b0, b1, hk1⟩ := vOK_c hk0
          obtain ⟨a, V2, rfl, a0, a1, hk2⟩ := vOK_c hk1
          have hE : eStep (mFact w p pain wet) 10 (aArg w i) (b :: a :: V2) = (if b < a then 1 else 0) :: V2 := rfl
          rw [hE] at hk he'
          have hsum2 := hk.2
          have hv2 := vOK_sum hk2
          have hx := hk.1.1
          rw [List.sum_cons] at hsum2
          rw [List.sum_cons, List.sum_cons] at hB
          have q1 : I' 178 ((((b :: a :: V2).length : Nat) : Int) - 1 - 1) = a := by rw [List.length_cons, List.length_cons, show ((V2.length + 1 + 1 : Nat) : Int) - 1 - 1 = (V2.length : Int) by omega]; exact hst.2.1
          have q2 : I' 178 ((((b :: a :: V2).length : Nat) : Int) - 1) = b := by rw [List.length_cons, show (((a :: V2).length + 1 : Nat) : Int) - 1 = ((a :: V2).length : Int) by omega]; exact hst.1
          have ih2 := fun z1 z2 z3 => ih (i + 1) _ _ (jup I' 178 ((((b :: a :: V2).length : Nat) : Int) - 1 - 1) ((if b < a then 1 else 0))) (some (jI 10)) z1 z2 z3 (by omega) (by omega) hT2 he' hk.1 hT1l (by omega) (by rw [jup_at]; exact aSt_push (by rw [List.length_cons, List.length_cons]; omega) hst.2.2) (Fr1_up hfr)
          have hl2 : (((b :: a :: V2).length : Nat) : Int) ≤ 60 ∧ 2 ≤ (((b :: a :: V2).length : Nat) : Int) := ⟨by omega, by rw [List.length_cons, List.length_cons]; omega⟩
          rw [show (((((if b < a then 1 else 0)) :: V2).length : Nat) : Int) = (((b :: a :: V2).length : Nat) : Int) - 1 by rw [List.length_cons, List.length_cons, List.length_cons]; omega] at ih2
          generalize hQ : rEI (if mHolds w n p pain wet then 1 else 0) sh F (Fr1 178 I) = Q9 at ih2 ⊢
          generalize (((b :: a :: V2).length : Nat) : Int) = top at *
          clear hk he' hE hk0 hk1
          refine j_iload dX12_holdsLine_22 rfl ?_
          refine j_aload_n dX12_holdsLine_24 rfl ?_
          refine r_getS dX12_holdsLine_25 flX12_13 (by first | assumption | exact hsh _ _ rfl) (fx_170_1 hfx) ?_
          refine j_iload dX12_holdsLine_28 rfl ?_
          refine j_iconst dX12_holdsLine_30 ?_
          refine j_iadd dX12_holdsLine_31 ?_
          refine r_ialoadE dX12_holdsLine_32 (by first | assumption | exact hsh _ _ rfl) (by first | omega | (split <;> omega)) (by first | omega | (split <;> omega)) (by rw [hw']) (fun b_32 => ?_)
          refine j_icmp_ge (tgt := 263) dX12_holdsLine_33 rfl (by first | omega | (split <;> omega)) (by first | omega | (split <;> omega)) (fun c_33 => by exact absurd c_33 (by omega)) (fun c_33 => ?_)
          refine j_aload_n dX12_holdsLine_36 rfl ?_
          refine r_getS dX12_holdsLine_37 flX12_13 (by first | assumption | exact hsh _ _ rfl) (fx_170_1 hfx) ?_
          refine j_sipush dX12_holdsLine_40 (by decide) ?_
          refine j_iconst dX12_holdsLine_43 ?_
          refine j_iload dX12_holdsLine_44 rfl ?_
          refine j_imul dX12_holdsLine_46 ?_
          refine j_iadd dX12_holdsLine_47 ?_
          refine r_ialoadE dX12_holdsLine_48 (by first | assumption | exact hsh _ _ rfl) (by first | omega | (split <;> omega)) (by first | omega | (split <;> omega)) q48 (fun b_48 => ?_)
          refine j_istore dX12_holdsLine_49 (by decide) ?_
          refine j_iload dX12_holdsLine_51 rfl ?_
          refine j_bipush dX12_holdsLine_53 (by decide) ?_
          refine j_icmp_gt (tgt := 92) dX12_holdsLine_55 rfl (by first | omega | (split <;> omega)) (by first | omega | (split <;> omega)) (fun c_55 => ?_) (fun c_55 => by exact absurd (by omega) c_55)
          refine j_iload dX12_holdsLine_92 rfl ?_
          refine j_bipush dX12_holdsLine_94 (by decide) ?_
          refine j_icmp_ne (tgt := 120) dX12_holdsLine_96 rfl (by first | omega | (split <;> omega)) (by first | omega | (split <;> omega)) (fun c_96 => ?_) (fun c_96 => by exact absurd (by decide) c_96)
          refine j_iinc dX12_holdsLine_120 rfl (by decide) ?_
          refine j_aload_n dX12_holdsLine_123 rfl ?_
          refine r_getS dX12_holdsLine_124 flX12_39 (by first | assumption | exact hsh _ _ rfl) (fx_170_17 hfx) ?_
          refine j_iload_n dX12_holdsLine_127 rfl ?_
          refine j_iconst dX12_holdsLine_128 ?_
          refine j_isub dX12_holdsLine_129 ?_
          refine r_ialoadE dX12_holdsLine_130 (by first | assumption | exact hsh _ _ rfl) (by first | omega | (split <;> omega)) (by first | omega | (split <;> omega)) q1 (fun b_130 => ?_)
          refine j_istore dX12_holdsLine_131 (by decide) ?_
          refine j_aload_n dX12_holdsLine_133 rfl ?_
          refine r_getS dX12_holdsLine_134 flX12_39 (by first | assumption | exact hsh _ _ rfl) (fx_170_17 hfx) ?_
          refine j_iload_n dX12_holdsLine_137 rfl ?_
          refine r_ialoadE dX12_holdsLine_138 (by first | assumption | exact hsh _ _ rfl) (by first | omega | (split <;> omega)) (by first | omega | (split <;> omega)) q2 (fun b_138 => ?_)
          refine j_istore dX12_holdsLine_139 (by decide) ?_
          refine j_iload dX12_holdsLine_141 rfl ?_
          refine j_bipush dX12_holdsLine_143 (by decide) ?_
          refine j_icmp_ne (tgt := 163) dX12_holdsLine_145 rfl (by first | omega | (split <;> omega)) (by first | omega | (split <;> omega)) (fun c_145 => ?_) (fun c_145 => by exact absurd c_145 (by decide))
          refine j_iload dX12_holdsLine_163 rfl ?_
          refine j_bipush dX12_holdsLine_165 (by decide) ?_
          refine j_icmp_ne (tgt := 185) dX12_holdsLine_167 rfl (by first | omega | (split <;> omega)) (by first | omega | (split <;> omega)) (fun c_167 => by exact absurd rfl c_167) (fun c_167 => ?_)
          refine j_iload dX12_holdsLine_170 rfl ?_
          refine j_iload dX12_holdsLine_172 rfl ?_
          refine j_icmp_le (tgt := 181) dX12_holdsLine_174 rfl (by first | omega | (split <;> omega)) (by first | omega | (split <;> omega)) (fun c_174 => ?_) (fun c_174 => ?_)
          · refine j_iconst dX12_holdsLine_181 ?_
            refine j_goto (tgt := 222) dX12_holdsLine_182 rfl ?_
            refine j_istore dX12_holdsLine_222 (by decide) ?_
            refine j_aload_n dX12_holdsLine_224 rfl ?_
            refine r_getS dX12_holdsLine_225 flX12_39 (by first | assumption | exact hsh _ _ rfl) (fx_170_17 hfx) ?_
            refine j_iload_n dX12_holdsLine_228 rfl ?_
            refine j_iconst dX12_holdsLine_229 ?_
            refine j_isub dX12_holdsLine_230 ?_
            refine j_iload dX12_holdsLine_231 rfl ?_
            refine j_bipush dX12_holdsLine_233 (by decide) ?_
            refine j_icmp_ne (tgt := 246) dX12_holdsLine_235 rfl (by first | omega | (split <;> omega)) (by first | omega | (split <;> omega)) (fun c_235 => ?_) (fun c_235 => by exact absurd c_235 (by decide))
            refine j_iload dX12_holdsLine_246 rfl ?_
            refine j_if_eq (tgt := 255) dX12_holdsLine_248 rfl (by first | omega | (split <;> omega)) (fun c_248 => ?_) (fun c_248 => ?_)
            · refine j_iconst dX12_holdsLine_255 ?_
              refine r_iastore dX12_holdsLine_256 (by first | assumption | exact hsh _ _ rfl) (by first | omega | (split <;> omega)) (by first | omega | (split <;> omega)) (by first | omega | (split <;> omega)) ?_
              refine j_iinc dX12_holdsLine_257 rfl (by decide) ?_
              refine j_goto (tgt := 22) dX12_holdsLine_260 rfl ?_
              first | (rw [if_pos (show b < a by omega)] at ih2; exact ih2 _ _ _) | (rw [if_neg (show ¬ (b < a) by omega)] at ih2; exact ih2 _ _ _)
            · refine j_iconst dX12_holdsLine_251 ?_
              refine j_goto (tgt := 256) dX12_holdsLine_252 rfl ?_
              refine r_iastore dX12_holdsLine_256 (by first | assumption | exact hsh _ _ rfl) (by first | omega | (split <;> omega)) (by first | omega | (split <;> omega)) (by first | omega | (split <;> omega)) ?_
              refine j_iinc dX12_holdsLine_257 rfl (by decide) ?_
              refine j_goto (tgt := 22) dX12_holdsLine_260 rfl ?_
              first | (rw [if_pos (show b < a by omega)] at ih2; exact ih2 _ _ _) | (rw [if_neg (show ¬ (b < a) by omega)] at ih2; exact ih2 _ _ _)
          · refine j_iconst dX12_holdsLine_177 ?_
            refine j_goto (tgt := 222) dX12_holdsLine_178 rfl ?_
            refine j_istore dX12_holdsLine_222 (by decide) ?_
            refine j_aload_n dX12_holdsLine_224 rfl ?_
            refine r_getS dX12_holdsLine_225 flX12_39 (by first | assumption | exact hsh _ _ rfl) (fx_170_17 hfx) ?_
            refine j_iload_n dX12_holdsLine_228 rfl ?_
            refine j_iconst dX12_holdsLine_229 ?_
            refine j_isub dX12_holdsLine_230 ?_
            refine j_iload dX12_holdsLine_231 rfl ?_
            refine j_bipush dX12_holdsLine_233 (by decide) ?_
            refine j_icmp_ne (tgt := 246) dX12_holdsLine_235 rfl (by first | omega | (split <;> omega)) (by first | omega | (split <;> omega)) (fun c_235 => ?_) (fun c_235 => by exact absurd c_235 (by decide))
            refine j_iload dX12_holdsLine_246 rfl ?_
            refine j_if_eq (tgt := 255) dX12_holdsLine_248 rfl (by first | omega | (split <;> omega)) (fun c_248 => ?_) (fun c_248 => ?_)
            · refine j_iconst dX12_holdsLine_255 ?_
              refine r_iastore dX12_holdsLine_256 (by first | assumption | exact hsh _ _ rfl) (by first | omega | (split <;> omega)) (by first | omega | (split <;> omega)) (by first | omega | (split <;> omega)) ?_
              refine j_iinc dX12_holdsLine_257 rfl (by decide) ?_
              refine j_goto (tgt := 22) dX12_holdsLine_260 rfl ?_
              first | (rw [if_pos (show b < a by omega)] at ih2; exact ih2 _ _ _) | (rw [if_neg (show ¬ (b < a) by omega)] at ih2; exact ih2 _ _ _)
            · refine j_iconst dX12_holdsLine_251 ?_
              refine j_goto (tgt := 256) dX12_holdsLine_252 rfl ?_
              refine r_iastore dX12_holdsLine_256 (by first | assumption | exact hsh _ _ rfl) (by first | omega | (split <;> omega)) (by first | omega | (split <;> omega)) (by first | omega | (split <;> omega)) ?_
              refine j_iinc dX12_holdsLine_257 rfl (by decide) ?_
              refine j_goto (tgt := 22) dX12_holdsLine_260 rfl ?_
              first | (rw [if_pos (show b < a by omega)] at ih2; exact ih2 _ _ _) | (rw [if_neg (show ¬ (b < a) by omega)] at ih2; exact ih2 _ _ _)
      · rcases h1 with rfl | rfl
        · obtain ⟨b, V1, rfl, b0, b1, hk1⟩ := vOK_c hk0
          obtain ⟨a, V2, rfl, a0, a1, hk2⟩ := vOK_c hk1
          have hE : eStep (mFact w p pain wet) 12 (aArg w i) (b :: a :: V2) = (if a + b = 2 then 1 else 0) :: V2 := rfl
          rw [hE] at hk he'
          have hsum2 := hk.2
          have hv2 := vOK_sum hk2
          have hx := hk.1.1
          rw [List.sum_cons] at hsum2
          rw [List.sum_cons, List.sum_cons] at hB
          have q1 : I' 178 ((((b :: a :: V2).length : Nat) : Int) - 1 - 1) = a := by rw [List.length_cons, List.length_cons, show ((V2.length + 1 + 1 : Nat) : Int) - 1 - 1 = (V2.length : Int) by omega]; exact hst.2.1
          have q2 : I' 178 ((((b :: a :: V2).length : Nat) : Int) - 1) = b := by rw [List.length_cons, show (((a :: V2).length + 1 : Nat) : Int) - 1 = ((a :: V2).length : Int) by omega]; exact hst.1
          have ih2 := fun z1 z2 z3 => ih (i + 1) _ _ (jup I' 178 ((((b :: a :: V2).length : Nat) : Int) - 1 - 1) ((if a + b = 2 then 1 else 0))) (some (jI 12)) z1 z2 z3 (by omega) (by omega) hT2 he' hk.1 hT1l (by omega) (by rw [jup_at]; exact aSt_push (by rw [List.length_cons, List.length_cons]; omega) hst.2.2) (Fr1_up hfr)
          have hl2 : (((b :: a :: V2).length : Nat) : Int) ≤ 60 ∧ 2 ≤ (((b :: a :: V2).length : Nat) : Int) := ⟨by omega, by rw [List.length_cons, List.length_cons]; omega⟩
          rw [show (((((if a + b = 2 then 1 else 0)) :: V2).length : Nat) : Int) = (((b :: a :: V2).length : Nat) : Int) - 1 by rw [List.length_cons, List.length_cons, List.length_cons]; omega] at ih2
          generalize hQ : rEI (if mHolds w n p pain wet then 1 else 0) sh F (Fr1 178 I) = Q9 at ih2 ⊢
          generalize (((b :: a :: V2).length : Nat) : Int) = top at *
          clear hk he' hE hk0 hk1
          refine j_iload dX12_holdsLine_22 rfl ?_
          refine j_aload_n dX12_holdsLine_24 rfl ?_
          refine r_getS dX12_holdsLine_25 flX12_13 (by first | assumption | exact hsh _ _ rfl) (fx_170_1 hfx) ?_
          refine j_iload dX12_holdsLine_28 rfl ?_
          refine j_iconst dX12_holdsLine_30 ?_
          refine j_iadd dX12_holdsLine_31 ?_
          refine r_ialoadE dX12_holdsLine_32 (by first | assumption | exact hsh _ _ rfl) (by first | omega | (split <;> omega)) (by first | omega | (split <;> omega)) (by rw [hw']) (fun b_32 => ?_)
          refine j_icmp_ge (tgt := 263) dX12_holdsLine_33 rfl (by first | omega | (split <;> omega)) (by first | omega | (split <;> omega)) (fun c_33 => by exact absurd c_33 (by omega)) (fun c_33 => ?_)
          refine j_aload_n dX12_holdsLine_36 rfl ?_
          refine r_getS dX12_holdsLine_37 flX12_13 (by first | assumption | exact hsh _ _ rfl) (fx_170_1 hfx) ?_
          refine j_sipush dX12_holdsLine_40 (by decide) ?_
          refine j_iconst dX12_holdsLine_43 ?_
          refine j_iload dX12_holdsLine_44 rfl ?_
          refine j_imul dX12_holdsLine_46 ?_
          refine j_iadd dX12_holdsLine_47 ?_
          refine r_ialoadE dX12_holdsLine_48 (by first | assumption | exact hsh _ _ rfl) (by first | omega | (split <;> omega)) (by first | omega | (split <;> omega)) q48 (fun b_48 => ?_)
          refine j_istore dX12_holdsLine_49 (by decide) ?_
          refine j_iload dX12_holdsLine_51 rfl ?_
          refine j_bipush dX12_holdsLine_53 (by decide) ?_
          refine j_icmp_gt (tgt := 92) dX12_holdsLine_55 rfl (by first | omega | (split <;> omega)) (by first | omega | (split <;> omega)) (fun c_55 => ?_) (fun c_55 => by exact absurd (by omega) c_55)
          refine j_iload dX12_holdsLine_92 rfl ?_
          refine j_bipush dX12_holdsLine_94 (by decide) ?_
          refine j_icmp_ne (tgt := 120) dX12_holdsLine_96 rfl (by first | omega | (split <;> omega)) (by first | omega | (split <;> omega)) (fun c_96 => ?_) (fun c_96 => by exact absurd (by decide) c_96)
          refine j_iinc dX12_holdsLine_120 rfl (by decide) ?_
          refine j_aload_n dX12_holdsLine_123 rfl ?_
          refine r_getS dX12_holdsLine_124 flX12_39 (by first | assumption | exact hsh _ _ rfl) (fx_170_17 hfx) ?_
          refine j_iload_n dX12_holdsLine_127 rfl ?_
          refine j_iconst dX12_holdsLine_128 ?_
          refine j_isub dX12_holdsLine_129 ?_
          refine r_ialoadE dX12_holdsLine_130 (by first | assumption | exact hsh _ _ rfl) (by first | omega | (split <;> omega)) (by first | omega | (split <;> omega)) q1 (fun b_130 => ?_)
          refine j_istore dX12_holdsLine_131 (by decide) ?_
          refine j_aload_n dX12_holdsLine_133 rfl ?_
          refine r_getS dX12_holdsLine_134 flX12_39 (by first | assumption | exact hsh _ _ rfl) (fx_170_17 hfx) ?_
          refine j_iload_n dX12_holdsLine_137 rfl ?_
          refine r_ialoadE dX12_holdsLine_138 (by first | assumption | exact hsh _ _ rfl) (by first | omega | (split <;> omega)) (by first | omega | (split <;> omega)) q2 (fun b_138 => ?_)
          refine j_istore dX12_holdsLine_139 (by decide) ?_
          refine j_iload dX12_holdsLine_141 rfl ?_
          refine j_bipush dX12_holdsLine_143 (by decide) ?_
          refine j_icmp_ne (tgt := 163) dX12_holdsLine_145 rfl (by first | omega | (split <;> omega)) (by first | omega | (split <;> omega)) (fun c_145 => ?_) (fun c_145 => by exact absurd c_145 (by decide))
          refine j_iload dX12_holdsLine_163 rfl ?_
          refine j_bipush dX12_holdsLine_165 (by decide) ?_
          refine j_icmp_ne (tgt := 185) dX12_holdsLine_167 rfl (by first | omega | (split <;> omega)) (by first | omega | (split <;> omega)) (fun c_167 => ?_) (fun c_167 => by exact absurd c_167 (by decide))
          refine j_iload dX12_holdsLine_185 rfl ?_
          refine j_bipush dX12_holdsLine_187 (by decide) ?_
          refine j_icmp_ne (tgt := 209) dX12_holdsLine_189 rfl (by first | omega | (split <;> omega)) (by first | omega | (split <;> omega)) (fun c_189 => by exact absurd rfl c_189) (fun c_189 => ?_)
          refine j_iload dX12_holdsLine_192 rfl ?_
          refine j_iload dX12_holdsLine_194 rfl ?_
          refine j_iadd dX12_holdsLine_196 ?_
          refine j_iconst dX12_holdsLine_197 ?_
          refine j_icmp_ne (tgt := 205) dX12_holdsLine_198 rfl (by first | omega | (split <;> omega)) (by first | omega | (split <;> omega)) (fun c_198 => ?_) (fun c_198 => ?_)
          · refine j_iconst dX12_holdsLine_205 ?_
            refine j_goto (tgt := 222) dX12_holdsLine_206 rfl ?_
            refine j_istore dX12_holdsLine_222 (by decide) ?_
            refine j_aload_n dX12_holdsLine_224 rfl ?_
            refine r_getS dX12_holdsLine_225 flX12_39 (by first | assumption | exact hsh _ _ rfl) (fx_170_17 hfx) ?_
            refine j_iload_n dX12_holdsLine_228 rfl ?_
            refine j_iconst dX12_holdsLine_229 ?_
            refine j_isub dX12_holdsLine_230 ?_
            refine j_iload dX12_holdsLine_231 rfl ?_
            refine j_bipush dX12_holdsLine_233 (by decide) ?_
            refine j_icmp_ne (tgt := 246) dX12_holdsLine_235 rfl (by first | omega | (split <;> omega)) (by first | omega | (split <;> omega)) (fun c_235 => ?_) (fun c_235 => by exact absurd c_235 (by decide))
            refine j_iload dX12_holdsLine_246 rfl ?_
            refine j_if_eq (tgt := 255) dX12_holdsLine_248 rfl (by first | omega | (split <;> omega)) (fun c_248 => ?_) (fun c_248 => ?_)
            · refine j_iconst dX12_holdsLine_255 ?_
              refine r_iastore dX12_holdsLine_256 (by first | assumption | exact hsh _ _ rfl) (by first | omega | (split <;> omega)) (by first | omega | (split <;> omega)) (by first | omega | (split <;> omega)) ?_
              refine j_iinc dX12_holdsLine_257 rfl (by decide) ?_
              refine j_goto (tgt := 22) dX12_holdsLine_260 rfl ?_
              first | (rw [if_pos (show a + b = 2 by omega)] at ih2; exact ih2 _ _ _) | (rw [if_neg (show ¬ (a + b = 2) by omega)] at ih2; exact ih2 _ _ _)
            · refine j_iconst dX12_holdsLine_251 ?_
              refine j_goto (tgt := 256) dX12_holdsLine_252 rfl ?_
              refine r_iastore dX12_holdsLine_256 (by first | assumption | exact hsh _ _ rfl) (by first | omega | (split <;> omega)) (by first | omega | (split <;> omega)) (by first | omega | (split <;> omega)) ?_
              refine j_iinc dX12_holdsLine_257 rfl (by decide) ?_
              refine j_goto (tgt := 22) dX12_holdsLine_260 rfl ?_
              first | (rw [if_pos (show a + b = 2 by omega)] at ih2; exact ih2 _ _ _) | (rw [if_neg (show ¬ (a + b = 2) by omega)] at ih2; exact ih2 _ _ _)
          · refine j_iconst dX12_holdsLine_201 ?_
            refine j_goto (tgt := 222) dX12_holdsLine_202 rfl ?_
            refine j_istore dX12_holdsLine_222 (by decide) ?_
            refine j_aload_n dX12_holdsLine_224 rfl ?_
            refine r_getS dX12_holdsLine_225 flX12_39 (by first | assumption | exact hsh _ _ rfl) (fx_170_17 hfx) ?_
            refine j_iload_n dX12_holdsLine_228 rfl ?_
            refine j_iconst dX12_holdsLine_229 ?_
            refine j_isub dX12_holdsLine_230 ?_
            refine j_iload dX12_holdsLine_231 rfl ?_
            refine j_bipush dX12_holdsLine_233 (by decide) ?_
            refine j_icmp_ne (tgt := 246) dX12_holdsLine_235 rfl (by first | omega | (split <;> omega)) (by first | omega | (split <;> omega)) (fun c_235 => ?_) (fun c_235 => by exact absurd c_235 (by decide))
            refine j_iload dX12_holdsLine_246 rfl ?_
            refine j_if_eq (tgt := 255) dX12_holdsLine_248 rfl (by first | omega | (split <;> omega)) (fun c_248 => ?_) (fun c_248 => ?_)
            · refine j_iconst dX12_holdsLine_255 ?_
              refine r_iastore dX12_holdsLine_256 (by first | assumption | exact hsh _ _ rfl) (by first | omega | (split <;> omega)) (by first | omega | (split <;> omega)) (by first | omega | (split <;> omega)) ?_
              refine j_iinc dX12_holdsLine_257 rfl (by decide) ?_
              refine j_goto (tgt := 22) dX12_holdsLine_260 rfl ?_
              first | (rw [if_pos (show a + b = 2 by omega)] at ih2; exact ih2 _ _ _) | (rw [if_neg (show ¬ (a + b = 2) by omega)] at ih2; exact ih2 _ _ _)
            · refine j_iconst dX12_holdsLine_251 ?_
              refine j_goto (tgt := 256) dX12_holdsLine_252 rfl ?_
              refine r_iastore dX12_holdsLine_256 (by first | assumption | exact hsh _ _ rfl) (by first | omega | (split <;> omega)) (by first | omega | (split <;> omega)) (by first | omega | (split <;> omega)) ?_
              refine j_iinc dX12_holdsLine_257 rfl (by decide) ?_
              refine j_goto (tgt := 22) dX12_holdsLine_260 rfl ?_
              first | (rw [if_pos (show a + b = 2 by omega)] at ih2; exact ih2 _ _ _) | (rw [if_neg (show ¬ (a + b = 2) by omega)] at ih2; exact ih2 _ _ _)
        · obtain ⟨b, V1, rfl, b0, b1, hk1⟩ := vOK_c hk0
          obtain ⟨a, V2, rfl, a0, a1, hk2⟩ := vOK_c hk1
          have hE : eStep (mFact w p pain wet) 13 (aArg w i) (b :: a :: V2) = (if 0 < a + b then 1 else 0) :: V2 := rfl
          rw [hE] at hk he'
          have hsum2 := hk.2
          have hv2 := vOK_sum hk2
          have hx := hk.1.1
          rw [List.sum_cons] at hsum2
          rw [List.sum_cons, List.sum_cons] at hB
          have q1 : I' 178 ((((b :: a :: V2).length : Nat) : Int) - 1 - 1) = a := by rw [List.length_cons, List.length_cons, show ((V2.length + 1 + 1 : Nat) : Int) - 1 - 1 = (V2.length : Int) by omega]; exact hst.2.1
          have q2 : I' 178 ((((b :: a :: V2).length : Nat) : Int) - 1) = b := by rw [List.length_cons, show (((a :: V2).length + 1 : Nat) : Int) - 1 = ((a :: V2).length : Int) by omega]; exact hst.1
          have ih2 := fun z1 z2 z3 => ih (i + 1) _ _ (jup I' 178 ((((b :: a :: V2).length : Nat) : Int) - 1 - 1) ((if 0 < a + b then 1 else 0))) (some (jI 13)) z1 z2 z3 (by omega) (by omega) hT2 he' hk.1 hT1l (by omega) (by rw [jup_at]; exact aSt_push (by rw [List.length_cons, List.length_cons]; omega) hst.2.2) (Fr1_up hfr)
          have hl2 : (((b :: a :: V2).length : Nat) : Int) ≤ 60 ∧ 2 ≤ (((b :: a :: V2).length : Nat) : Int) := ⟨by omega, by rw [List.length_cons, List.length_cons]; omega⟩
          rw [show (((((if 0 < a + b then 1 else 0)) :: V2).length : Nat) : Int) = (((b :: a :: V2).length : Nat) : Int) - 1 by rw [List.length_cons, List.length_cons, List.length_cons]; omega] at ih2
          generalize hQ : rEI (if mHolds w n p pain wet then 1 else 0) sh F (Fr1 178 I) = Q9 at ih2 ⊢
          generalize (((b :: a :: V2).length : Nat) : Int) = top at *
          clear hk he' hE hk0 hk1
          refine j_iload dX12_holdsLine_22 rfl ?_
          refine j_aload_n dX12_holdsLine_24 rfl ?_
          refine r_getS dX12_holdsLine_25 flX12_13 (by first | assumption | exact hsh _ _ rfl) (fx_170_1 hfx) ?_
          refine j_iload dX12_holdsLine_28 rfl ?_
          refine j_iconst dX12_holdsLine_30 ?_
          refine j_iadd dX12_holdsLine_31 ?_
          refine r_ialoadE dX12_holdsLine_32 (by first | assumption | exact hsh _ _ rfl) (by first | omega | (split <;> omega)) (by first | omega | (split <;> omega)) (by rw [hw']) (fun b_32 => ?_)
          refine j_icmp_ge (tgt := 263) dX12_holdsLine_33 rfl (by first | omega | (split <;> omega)) (by first | omega | (split <;> omega)) (fun c_33 => by exact absurd c_33 (by omega)) (fun c_33 => ?_)
          refine j_aload_n dX12_holdsLine_36 rfl ?_
          refine r_getS dX12_holdsLine_37 flX12_13 (by first | assumption | exact hsh _ _ rfl) (fx_170_1 hfx) ?_
          refine j_sipush dX12_holdsLine_40 (by decide) ?_
          refine j_iconst dX12_holdsLine_43 ?_
          refine j_iload dX12_holdsLine_44 rfl ?_
          refine j_imul dX12_holdsLine_46 ?_
          refine j_iadd dX12_holdsLine_47 ?_
          refine r_ialoadE dX12_holdsLine_48 (by first | assumption | exact hsh _ _ rfl) (by first | omega | (split <;> omega)) (by first | omega | (split <;> omega)) q48 (fun b_48 => ?_)
          refine j_istore dX12_holdsLine_49 (by decide) ?_
          refine j_iload dX12_holdsLine_51 rfl ?_
          refine j_bipush dX12_holdsLine_53 (by decide) ?_
          refine j_icmp_gt (tgt := 92) dX12_holdsLine_55 rfl (by first | omega | (split <;> omega)) (by first | omega | (split <;> omega)) (fun c_55 => ?_) (fun c_55 => by exact absurd (by omega) c_55)
          refine j_iload dX12_holdsLine_92 rfl ?_
          refine j_bipush dX12_holdsLine_94 (by decide) ?_
          refine j_icmp_ne (tgt := 120) dX12_holdsLine_96 rfl (by first | omega | (split <;> omega)) (by first | omega | (split <;> omega)) (fun c_96 => ?_) (fun c_96 => by exact absurd (by decide) c_96)
          refine j_iinc dX12_holdsLine_120 rfl (by decide) ?_
          refine j_aload_n dX12_holdsLine_123 rfl ?_
          refine r_getS dX12_holdsLine_124 flX12_39 (by first | assumption | exact hsh _ _ rfl) (fx_170_17 hfx) ?_
          refine j_iload_n dX12_holdsLine_127 rfl ?_
          refine j_iconst dX12_holdsLine_128 ?_
          refine j_isub dX12_holdsLine_129 ?_
          refine r_ialoadE dX12_holdsLine_130 (by first | assumption | exact hsh _ _ rfl) (by first | omega | (split <;> omega)) (by first | omega | (split <;> omega)) q1 (fun b_130 => ?_)
          refine j_istore dX12_holdsLine_131 (by decide) ?_
          refine j_aload_n dX12_holdsLine_133 rfl ?_
          refine r_getS dX12_holdsLine_134 flX12_39 (by first | assumption | exact hsh _ _ rfl) (fx_170_17 hfx) ?_
          refine j_iload_n dX12_holdsLine_137 rfl ?_
          refine r_ialoadE dX12_holdsLine_138 (by first | assumption | exact hsh _ _ rfl) (by first | omega | (split <;> omega)) (by first | omega | (split <;> omega)) q2 (fun b_138 => ?_)
          refine j_istore dX12_holdsLine_139 (by decide) ?_
          refine j_iload dX12_holdsLine_141 rfl ?_
          refine j_bipush dX12_holdsLine_143 (by decide) ?_
          refine j_icmp_ne (tgt := 163) dX12_holdsLine_145 rfl (by first | omega | (split <;> omega)) (by first | omega | (split <;> omega)) (fun c_145 => ?_) (fun c_145 => by exact absurd c_145 (by decide))
          refine j_iload dX12_holdsLine_163 rfl ?_
          refine j_bipush dX12_holdsLine_165 (by decide) ?_
          refine j_icmp_ne (tgt := 185) dX12_holdsLine_167 rfl (by first | omega | (split <;> omega)) (by first | omega | (split <;> omega)) (fun c_167 => ?_) (fun c_167 => by exact absurd c_167 (by decide))
          refine j_iload dX12_holdsLine_185 rfl ?_
          refine j_bipush dX12_holdsLine_187 (by decide) ?_
          refine j_icmp_ne (tgt := 209) dX12_holdsLine_189 rfl (by first | omega | (split <;> omega)) (by first | omega | (split <;> omega)) (fun c_189 => ?_) (fun c_189 => by exact absurd c_189 (by decide))
          refine j_iload dX12_holdsLine_209 rfl ?_
          refine j_iload dX12_holdsLine_211 rfl ?_
          refine j_iadd dX12_holdsLine_213 ?_
          refine j_if_le (tgt := 221) dX12_holdsLine_214 rfl (by first | omega | (split <;> omega)) (fun c_214 => ?_) (fun c_214 => ?_)
          · refine j_iconst dX12_holdsLine_221 ?_
            refine j_istore dX12_holdsLine_222 (by decide) ?_
            refine j_aload_n dX12_holdsLine_224 rfl ?_
            refine r_getS dX12_holdsLine_225 flX12_39 (by first | assumption | exact hsh _ _ rfl) (fx_170_17 hfx) ?_
            refine j_iload_n dX12_holdsLine_228 rfl ?_
            refine j_iconst dX12_holdsLine_229 ?_
            refine j_isub dX12_holdsLine_230 ?_
            refine j_iload dX12_holdsLine_231 rfl ?_
            refine j_bipush dX12_holdsLine_233 (by decide) ?_
            refine j_icmp_ne (tgt := 246) dX12_holdsLine_235 rfl (by first | omega | (split <;> omega)) (by first | omega | (split <;> omega)) (fun c_235 => ?_) (fun c_235 => by exact absurd c_235 (by decide))
            refine j_iload dX12_holdsLine_246 rfl ?_
            refine j_if_eq (tgt := 255) dX12_holdsLine_248 rfl (by first | omega | (split <;> omega)) (fun c_248 => ?_) (fun c_248 => ?_)
            · refine j_iconst dX12_holdsLine_255 ?_
              refine r_iastore dX12_holdsLine_256 (by first | assumption | exact hsh _ _ rfl) (by first | omega | (split <;> omega)) (by first | omega | (split <;> omega)) (by first | omega | (split <;> omega)) ?_
              refine j_iinc dX12_holdsLine_257 rfl (by decide) ?_
              refine j_goto (tgt := 22) dX12_holdsLine_260 rfl ?_
              first | (rw [if_pos (show 0 < a + b by omega)] at ih2; exact ih2 _ _ _) | (rw [if_neg (show ¬ (0 < a + b) by omega)] at ih2; exact ih2 _ _ _)
            · refine j_iconst dX12_holdsLine_251 ?_
              refine j_goto (tgt := 256) dX12_holdsLine_252 rfl ?_
              refine r_iastore dX12_holdsLine_256 (by first | assumption | exact hsh _ _ rfl) (by first | omega | (split <;> omega)) (by first | omega | (split <;> omega)) (by first | omega | (split <;> omega)) ?_
              refine j_iinc dX12_holdsLine_257 rfl (by decide) ?_
              refine j_goto (tgt := 22) dX12_holdsLine_260 rfl ?_
              first | (rw [if_pos (show 0 < a + b by omega)] at ih2; exact ih2 _ _ _) | (rw [if_neg (show ¬ (0 < a + b) by omega)] at ih2; exact ih2 _ _ _)
          · refine j_iconst dX12_holdsLine_217 ?_
            refine j_goto (tgt := 222) dX12_holdsLine_218 rfl ?_
            refine j_istore dX12_holdsLine_222 (by decide) ?_
            refine j_aload_n dX12_holdsLine_224 rfl ?_
            refine r_getS dX12_holdsLine_225 flX12_39 (by first | assumption | exact hsh _ _ rfl) (fx_170_17 hfx) ?_
            refine j_iload_n dX12_holdsLine_228 rfl ?_
            refine j_iconst dX12_holdsLine_229 ?_
            refine j_isub dX12_holdsLine_230 ?_
            refine j_iload dX12_holdsLine_231 rfl ?_
            refine j_bipush dX12_holdsLine_233 (by decide) ?_
            refine j_icmp_ne (tgt := 246) dX12_holdsLine_235 rfl (by first | omega | (split <;> omega)) (by first | omega | (split <;> omega)) (fun c_235 => ?_) (fun c_235 => by exact absurd c_235 (by decide))
            refine j_iload dX12_holdsLine_246 rfl ?_
            refine j_if_eq (tgt := 255) dX12_holdsLine_248 rfl (by first | omega | (split <;> omega)) (fun c_248 => ?_) (fun c_248 => ?_)
            · refine j_iconst dX12_holdsLine_255 ?_
              refine r_iastore dX12_holdsLine_256 (by first | assumption | exact hsh _ _ rfl) (by first | omega | (split <;> omega)) (by first | omega | (split <;> omega)) (by first | omega | (split <;> omega)) ?_
              refine j_iinc dX12_holdsLine_257 rfl (by decide) ?_
              refine j_goto (tgt := 22) dX12_holdsLine_260 rfl ?_
              first | (rw [if_pos (show 0 < a + b by omega)] at ih2; exact ih2 _ _ _) | (rw [if_neg (show ¬ (0 < a + b) by omega)] at ih2; exact ih2 _ _ _)
            · refine j_iconst dX12_holdsLine_251 ?_
              refine j_goto (tgt := 256) dX12_holdsLine_252 rfl ?_
              refine r_iastore dX12_holdsLine_256 (by first | assumption | exact hsh _ _ rfl) (by first | omega | (split <;> omega)) (by first | omega | (split <;> omega)) (by first | omega | (split <;> omega)) ?_
              refine j_iinc dX12_holdsLine_257 rfl (by decide) ?_
              refine j_goto (tgt := 22) dX12_holdsLine_260 rfl ?_
              first | (rw [if_pos (show 0 < a + b by omega)] at ih2; exact ih2 _ _ _) | (rw [if_neg (show ¬ (0 < a + b) by omega)] at ih2; exact ih2 _ _ _)
  refine j_iconst dX12_holdsLine_0 ?_
  refine j_istore_n dX12_holdsLine_1 (by decide) ?_
  refine j_sipush dX12_holdsLine_2 (by decide) ?_
  refine j_iconst dX12_holdsLine_5 ?_
  refine j_iload_n dX12_holdsLine_6 rfl ?_
  refine j_imul dX12_holdsLine_7 ?_
  refine j_iadd dX12_holdsLine_8 ?_
  refine j_istore dX12_holdsLine_9 (by decide) ?_
  refine j_aload_n dX12_holdsLine_11 rfl ?_
  refine r_getS dX12_holdsLine_12 flX12_13 (by first | assumption | exact hsh _ _ rfl) (fx_170_1 hfx) ?_
  refine j_iload dX12_holdsLine_15 rfl ?_
  refine j_iconst dX12_holdsLine_17 ?_
  refine j_iadd dX12_holdsLine_18 ?_
  refine r_ialoadE dX12_holdsLine_19 (by first | assumption | exact hsh _ _ rfl) (by first | omega | (split <;> omega)) (by first | omega | (split <;> omega)) (by rw [hw]) (fun b_19 => ?_)
  refine j_istore dX12_holdsLine_20 (by decide) ?_
  exact key _ _ _ [] I none none none none (by omega) (by omega) l6 rfl trivial (by decide) (by rw [List.sum_nil]; omega) trivial (fun a _ => rfl)
end
