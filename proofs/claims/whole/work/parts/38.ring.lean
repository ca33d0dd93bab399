/-! RINGS AND HEIRS -/
section
variable {G : jzG} {d : Nat} {sh : List (Nat × Nat)} {I : Nat → Int → Int} {F : Nat → Int → Option Nat} {s : Nat} {w : Int → Int}
theorem jorfold {g : Int → Int} {a0 : Int} (ha : 0 ≤ a0 ∧ a0 < 256) : ∀ {n : Nat}, (∀ k : Int, 0 ≤ k → k < n → 0 ≤ g k ∧ g k < 256) → (0 ≤ jfold (fun k a => jOr a (g k)) a0 n ∧ jfold (fun k a => jOr a (g k)) a0 n < 256) ∧ ∀ q : Int, 0 ≤ q → q < 31 → (jbit (jfold (fun k a => jOr a (g k)) a0 n) q ↔ jbit a0 q ∨ ∃ k : Int, 0 ≤ k ∧ k < n ∧ jbit (g k) q)
  | 0, _ => ⟨ha, fun q _ _ => ⟨Or.inl, fun z => z.elim id (fun ⟨k, h1, h2, _⟩ => absurd h2 (by omega))⟩⟩
  | n + 1, h => by
    have ih := jorfold ha (n := n) (fun k h0 h1 => h k h0 (by omega))
    have h2 := jOr_set ih.1 (h n (by omega) (by omega))
    refine ⟨h2.1, fun q hq0 hq1 => ?_⟩
    show jbit (jOr (jfold (fun k a => jOr a (g k)) a0 n) (g n)) q ↔ _
    rw [h2.2.2 q hq0 hq1, ih.2 q hq0 hq1]
    constructor
    · rintro ((a | ⟨k, a, b, c⟩) | a)
      · exact Or.inl a
      · exact Or.inr ⟨k, a, by omega, c⟩
      · exact Or.inr ⟨n, by omega, by omega, a⟩
    · rintro (a | ⟨k, a, b, c⟩)
      · exact Or.inl (Or.inl a)
      · by_cases e : k = n
        · subst e; exact Or.inr c
        · exact Or.inl (Or.inr ⟨k, a, by omega, c⟩)
def mOwIn (w : Int → Int) (x p a : Int) : Int := jfold (fun q b => jOr b (if jbit x p ∧ 0 < aOw w p q then jShl 1 q else 0)) a (aPe w).toNat
def mOwes (w : Int → Int) (x : Int) : Int := jfold (fun p a => mOwIn w x p a) 0 (aPe w).toNat
def mOwB (w : Int → Int) (p : Int) : Int := jfold (fun q b => jOr b (if 0 < aOw w p q then jShl 1 q else 0)) 0 (aPe w).toNat
def mOwC (w : Int → Int) (x : Int) : Int := jfold (fun p a => jOr a (if jbit x p then mOwB w p else 0)) 0 (aPe w).toNat
theorem jShl_if {P : Prop} [Decidable P] {k : Int} (h0 : 0 ≤ k) (h1 : k < 8) : 0 ≤ (if P then jShl 1 k else 0) ∧ (if P then jShl 1 k else 0) < 256 := by
  have := (jShl_set h0 h1).1
  split <;> omega
theorem jbit_if {P : Prop} [Decidable P] {k q : Int} (h0 : 0 ≤ k) (h1 : k < 8) (hq0 : 0 ≤ q) (hq1 : q < 31) : jbit (if P then jShl 1 k else 0) q ↔ P ∧ q = k := by
  have := (jShl_set h0 h1).2 q hq0 hq1
  split
  · rw [this]; exact ⟨fun z => ⟨by assumption, z⟩, fun z => z.2⟩
  · exact ⟨fun z => absurd z (jbit_0 hq0 hq1), fun z => absurd z.1 (by assumption)⟩
theorem mOwB_set (hP : 0 ≤ aPe w ∧ aPe w ≤ 8) (p : Int) : (0 ≤ mOwB w p ∧ mOwB w p < 256) ∧ ∀ q : Int, 0 ≤ q → q < 31 → (jbit (mOwB w p) q ↔ q < aPe w ∧ 0 < aOw w p q) := by
  have := jorfold (g := fun q => if 0 < aOw w p q then jShl 1 q else 0) (a0 := 0) (by omega) (n := (aPe w).toNat) (fun k h0 h1 => jShl_if h0 (by omega))
  refine ⟨this.1, fun q hq0 hq1 => (this.2 q hq0 hq1).trans ⟨?_, ?_⟩⟩
  · rintro (a | ⟨k, a, b, c⟩)
    · exact absurd a (jbit_0 hq0 hq1)
    · obtain ⟨e1, e2⟩ := (jbit_if a (by omega) hq0 hq1).mp c
      subst e2; exact ⟨by omega, e1⟩
  · rintro ⟨a, b⟩
    exact Or.inr ⟨q, hq0, by omega, (jbit_if hq0 (by omega) hq0 hq1).mpr ⟨b, rfl⟩⟩
theorem mOwC_set (hP : 0 ≤ aPe w ∧ aPe w ≤ 8) (x : Int) : (0 ≤ mOwC w x ∧ mOwC w x < 256) ∧ ∀ q : Int, 0 ≤ q → q < 31 → (jbit (mOwC w x) q ↔ q < aPe w ∧ ∃ p, 0 ≤ p ∧ p < aPe w ∧ jbit x p ∧ 0 < aOw w p q) := by
  have := jorfold (g := fun p => if jbit x p then mOwB w p else 0) (a0 := 0) (by omega) (n := (aPe w).toNat) (fun k h0 h1 => by have := (mOwB_set hP k).1; split <;> omega)
  refine ⟨this.1, fun q hq0 hq1 => (this.2 q hq0 hq1).trans ⟨?_, ?_⟩⟩
  · rintro (a | ⟨k, a, b, c⟩)
    · exact absurd a (jbit_0 hq0 hq1)
    · by_cases e : jbit x k
      · rw [if_pos e] at c
        have := ((mOwB_set hP k).2 q hq0 hq1).mp c
        exact ⟨this.1, k, a, by omega, e, this.2⟩
      · rw [if_neg e] at c
        exact absurd c (jbit_0 hq0 hq1)
  · rintro ⟨a, k, b, c, e, f⟩
    exact Or.inr ⟨k, b, by omega, by rw [if_pos e]; exact ((mOwB_set hP k).2 q hq0 hq1).mpr ⟨a, f⟩⟩
theorem mOwIn_set (hP : 0 ≤ aPe w ∧ aPe w ≤ 8) (x p : Int) {a : Int} (ha : 0 ≤ a ∧ a < 256) : (0 ≤ mOwIn w x p a ∧ mOwIn w x p a < 256) ∧ ∀ q : Int, 0 ≤ q → q < 31 → (jbit (mOwIn w x p a) q ↔ jbit a q ∨ (q < aPe w ∧ jbit x p ∧ 0 < aOw w p q)) := by
  have := jorfold (g := fun q => if jbit x p ∧ 0 < aOw w p q then jShl 1 q else 0) (a0 := a) ha (n := (aPe w).toNat) (fun k h0 h1 => jShl_if h0 (by omega))
  refine ⟨this.1, fun q hq0 hq1 => (this.2 q hq0 hq1).trans ⟨?_, ?_⟩⟩
  · rintro (a | ⟨k, a, b, c⟩)
    · exact Or.inl a
    · obtain ⟨e1, e2⟩ := (jbit_if a (by omega) hq0 hq1).mp c
      subst e2; exact Or.inr ⟨by omega, e1⟩
  · rintro (a | ⟨a, b⟩)
    · exact Or.inl a
    · exact Or.inr ⟨q, hq0, by omega, (jbit_if hq0 (by omega) hq0 hq1).mpr ⟨b, rfl⟩⟩
theorem mOwes_set (hP : 0 ≤ aPe w ∧ aPe w ≤ 8) (x : Int) : (0 ≤ mOwes w x ∧ mOwes w x < 256) ∧ ∀ q : Int, 0 ≤ q → q < 31 → (jbit (mOwes w x) q ↔ q < aPe w ∧ ∃ p, 0 ≤ p ∧ p < aPe w ∧ jbit x p ∧ 0 < aOw w p q) := by
  have := jfold_ind (f := fun p a => mOwIn w x p a) (a := 0) (fun k a => (0 ≤ a ∧ a < 256) ∧ ∀ q : Int, 0 ≤ q → q < 31 → (jbit a q ↔ q < aPe w ∧ ∃ p, 0 ≤ p ∧ p < k ∧ jbit x p ∧ 0 < aOw w p q)) ⟨by omega, fun q h0 h1 => ⟨fun z => absurd z (jbit_0 h0 h1), fun ⟨_, p, a, b, _⟩ => by omega⟩⟩ (n := (aPe w).toNat) (fun k y h0 h1 ih => by
    have h2 := mOwIn_set hP x k ih.1
    refine ⟨h2.1, fun q hq0 hq1 => ?_⟩
    rw [h2.2 q hq0 hq1, ih.2 q hq0 hq1]
    constructor
    · rintro (⟨a, p, b, c, e⟩ | ⟨a, b⟩)
      · exact ⟨a, p, b, by omega, e⟩
      · exact ⟨a, k, h0, by omega, b⟩
    · rintro ⟨a, p, b, c, e⟩
      by_cases f : p = k
      · subst f; exact Or.inr ⟨a, e⟩
      · exact Or.inl ⟨a, p, b, by omega, e⟩)
  rw [show (((aPe w).toNat : Nat) : Int) = aPe w by omega] at this
  exact this
theorem mOwes_C (hP : 0 ≤ aPe w ∧ aPe w ≤ 8) (x : Int) : mOwC w x = mOwes w x :=
  jset_ext (mOwC_set hP x).1 (mOwes_set hP x).1 (fun p h0 h1 => ((mOwC_set hP x).2 p h0 (by omega)).trans ((mOwes_set hP x).2 p h0 (by omega)).symm)
theorem sm_owesTo (hsh : ShOK sh) (hfx : FxOK F) (hP : WfP (I 171)) {x : Int} : jS G (d + 2) mX12_owesTo [jR (some 170), jI x] (sh, I, F) 0 0 (rI (mOwes (I 171) x) (sh, I, F)) := by
  have hP2 := hP.2
  have hP1 := hP.1
  refine jS_go [some (jR (some 170)), some (jI x), none, none, none] (by decide +kernel) rfl (by simp [jone]) (Nat.le_of_ble_eq_true rfl) rfl (fun hok => ?_)
  have key : ∀ (m : Nat) (z a : Int) (o : Option jzV), z + m = aPe (I 171) → 0 ≤ z → a = jfold (fun p a => mOwIn (I 171) x p a) 0 z.toNat → jW G mX12_owesTo (d + 2) (rI (mOwes (I 171) x) (sh, I, F)) 4 [some (jR (some 170)), some (jI x), some (jI a), some (jI z), o] [] (sh, I, F) 0 0 := by
    intro m
    induction m with
    | zero =>
      intro z a o hz hz0 ha
      refine j_iload_n dX12_owesTo_4 rfl ?_
      refine j_aload_n dX12_owesTo_5 rfl ?_
      refine r_cv0J dX12_owesTo_6 cvX12_74 (by decide) (by first | assumption | exact hsh _ _ rfl) (Nat.le_of_ble_eq_true rfl) (Nat.le_of_eq (Nat.zero_add _)) (Nat.le_of_eq (Nat.zero_add _)) (sm_people hsh hfx) (hok.2.1 171 _) (fun b_6 => ?_)
      refine j_icmp_ge (tgt := 65) dX12_owesTo_9 rfl (by first | omega | (split <;> omega)) (by first | omega | (split <;> omega)) (fun c_9 => ?_) (fun c_9 => by exact absurd (by omega) c_9)
      refine j_iload_n dX12_owesTo_65 rfl ?_
      refine j_iret dX12_owesTo_66 rfl ?_
      exact rI_of (by rw [ha, show z = aPe (I 171) by omega]; rfl) rfl
    | succ m ih =>
      intro z a o hz hz0 ha
      refine j_iload_n dX12_owesTo_4 rfl ?_
      refine j_aload_n dX12_owesTo_5 rfl ?_
      refine r_cv0J dX12_owesTo_6 cvX12_74 (by decide) (by first | assumption | exact hsh _ _ rfl) (Nat.le_of_ble_eq_true rfl) (Nat.le_of_eq (Nat.zero_add _)) (Nat.le_of_eq (Nat.zero_add _)) (sm_people hsh hfx) (hok.2.1 171 _) (fun b_6 => ?_)
      refine j_icmp_ge (tgt := 65) dX12_owesTo_9 rfl (by first | omega | (split <;> omega)) (by first | omega | (split <;> omega)) (fun c_9 => by exact absurd c_9 (by omega)) (fun c_9 => ?_)
      refine j_iconst dX12_owesTo_12 ?_
      refine j_istore dX12_owesTo_13 (by decide) ?_
      skip
      refine jW_loop 15 (fun _ _ => True) (fun q b => jOr b (if jbit x z ∧ 0 < aOw (I 171) z q then jShl 1 q else 0)) a (aPe (I 171)) (fun y b => [some (jR (some 170)), some (jI x), some (jI b), some (jI z), some (jI y)]) (fun _ _ => (sh, I, F)) hP1 trivial (fun _ _ _ _ _ => trivial) (fun b hb _ => ?_) (fun y b hy0 hy1 _ ih2 => ?_)
      · refine j_iload dX12_owesTo_15 rfl ?_
        refine j_aload_n dX12_owesTo_17 rfl ?_
        refine r_cv0J dX12_owesTo_18 cvX12_74 (by decide) (by first | assumption | exact hsh _ _ rfl) (Nat.le_of_ble_eq_true rfl) (Nat.le_of_eq (Nat.zero_add _)) (Nat.le_of_eq (Nat.zero_add _)) (sm_people hsh hfx) (hok.2.1 171 _) (fun b_18 => ?_)
        refine j_icmp_ge (tgt := 59) dX12_owesTo_21 rfl (by first | omega | (split <;> omega)) (by first | omega | (split <;> omega)) (fun c_21 => ?_) (fun c_21 => by exact absurd (by omega) c_21)
        refine j_iinc dX12_owesTo_59 rfl (by decide) ?_
        refine j_goto (tgt := 4) dX12_owesTo_62 rfl ?_
        exact ih (z + 1) b _ (by omega) (by omega) (by rw [jfold_s _ _ hz0, ← ha]; exact hb)
      · refine j_iload dX12_owesTo_15 rfl ?_
        refine j_aload_n dX12_owesTo_17 rfl ?_
        refine r_cv0J dX12_owesTo_18 cvX12_74 (by decide) (by first | assumption | exact hsh _ _ rfl) (Nat.le_of_ble_eq_true rfl) (Nat.le_of_eq (Nat.zero_add _)) (Nat.le_of_eq (Nat.zero_add _)) (sm_people hsh hfx) (hok.2.1 171 _) (fun b_18 => ?_)
        refine j_icmp_ge (tgt := 59) dX12_owesTo_21 rfl (by first | omega | (split <;> omega)) (by first | omega | (split <;> omega)) (fun c_21 => by exact absurd c_21 (by omega)) (fun c_21 => ?_)
        refine j_iload_n dX12_owesTo_24 rfl ?_
        refine j_iload_n dX12_owesTo_25 rfl ?_
        refine j_iload_n dX12_owesTo_26 rfl ?_
        refine r_cs2I dX12_owesTo_27 csX12_332 (Nat.le_of_ble_eq_true rfl) (Nat.le_of_eq (Nat.zero_add _)) (Nat.le_of_eq (Nat.zero_add _)) (sm_has) ?_
        refine j_if_eq (tgt := 50) dX12_owesTo_30 rfl (by first | omega | (split <;> omega)) (fun c_30 => ?_) (fun c_30 => ?_)
        · rw [ite0] at c_30
          refine j_iconst dX12_owesTo_50 ?_
          refine r_ior dX12_owesTo_51 (fun b_51 => ?_)
          refine j_istore_n dX12_owesTo_52 (by decide) ?_
          refine j_iinc dX12_owesTo_53 rfl (by decide) ?_
          refine j_goto (tgt := 15) dX12_owesTo_56 rfl ?_
          first | (rw [if_pos (by omega)] at ih2; exact ih2) | (rw [if_neg (fun z9 => by omega)] at ih2; exact ih2) | (rw [if_neg (fun z9 => c_30 z9.1)] at ih2; exact ih2) | (rw [if_pos ⟨Classical.not_not.mp c_30, by omega⟩] at ih2; exact ih2)
        · rw [ite0] at c_30
          refine j_aload_n dX12_owesTo_33 rfl ?_
          refine j_iload_n dX12_owesTo_34 rfl ?_
          refine j_iload dX12_owesTo_35 rfl ?_
          refine r_cv2J dX12_owesTo_37 cvX12_329 (by decide) (by first | assumption | exact hsh _ _ rfl) (Nat.le_of_ble_eq_true rfl) (Nat.le_of_eq (Nat.zero_add _)) (Nat.le_of_eq (Nat.zero_add _)) (sm_owedBy hsh hfx (by omega)) (hok.2.1 171 _) (fun b_37 => ?_)
          refine j_if_le (tgt := 50) dX12_owesTo_40 rfl (by first | omega | (split <;> omega)) (fun c_40 => ?_) (fun c_40 => ?_)
          · refine j_iconst dX12_owesTo_50 ?_
            refine r_ior dX12_owesTo_51 (fun b_51 => ?_)
            refine j_istore_n dX12_owesTo_52 (by decide) ?_
            refine j_iinc dX12_owesTo_53 rfl (by decide) ?_
            refine j_goto (tgt := 15) dX12_owesTo_56 rfl ?_
            first | (rw [if_pos (by omega)] at ih2; exact ih2) | (rw [if_neg (fun z9 => by omega)] at ih2; exact ih2) | (rw [if_neg (fun z9 => c_30 z9.1)] at ih2; exact ih2) | (rw [if_pos ⟨Classical.not_not.mp c_30, by omega⟩] at ih2; exact ih2)
          · refine j_iconst dX12_owesTo_43 ?_
            refine j_iload dX12_owesTo_44 rfl ?_
            refine r_ishl dX12_owesTo_46 (fun b_46 => ?_)
            refine j_goto (tgt := 51) dX12_owesTo_47 rfl ?_
            refine r_ior dX12_owesTo_51 (fun b_51 => ?_)
            refine j_istore_n dX12_owesTo_52 (by decide) ?_
            refine j_iinc dX12_owesTo_53 rfl (by decide) ?_
            refine j_goto (tgt := 15) dX12_owesTo_56 rfl ?_
            first | (rw [if_pos (by omega)] at ih2; exact ih2) | (rw [if_neg (fun z9 => by omega)] at ih2; exact ih2) | (rw [if_neg (fun z9 => c_30 z9.1)] at ih2; exact ih2) | (rw [if_pos ⟨Classical.not_not.mp c_30, by omega⟩] at ih2; exact ih2)
  refine j_iconst dX12_owesTo_0 ?_
  refine j_istore_n dX12_owesTo_1 (by decide) ?_
  refine j_iconst dX12_owesTo_2 ?_
  refine j_istore_n dX12_owesTo_3 (by decide) ?_
  exact key (aPe (I 171)).toNat 0 0 _ (by omega) (by omega) rfl
def mOwI (w : Int → Int) (x : Int) (n : Nat) : Int := jfold (fun _ a => mOwes w a) x n
theorem mOwI_s (w : Int → Int) (x : Int) {z : Int} (h : 0 ≤ z) : mOwI w x (z + 1).toNat = mOwes w (mOwI w x z.toNat) := jfold_s _ _ h
noncomputable def mRing (w : Int → Int) (p : Int) : Int := if jfirst (fun j => jbit (mOwI w (jShl 1 p) (j + 1).toNat) p) (aPe w) < 0 then -1 else jfirst (fun j => jbit (mOwI w (jShl 1 p) (j + 1).toNat) p) (aPe w) + 1
theorem mRing_hit {p k : Int} (h0 : 0 ≤ k) (h1 : k < aPe w) (h2 : jbit (mOwI w (jShl 1 p) (k + 1).toNat) p) (h3 : ∀ j, 0 ≤ j → j < k → ¬ jbit (mOwI w (jShl 1 p) (j + 1).toNat) p) : mRing w p = k + 1 := by
  have := jfirst_hit (P := fun j => jbit (mOwI w (jShl 1 p) (j + 1).toNat) p) (N := aPe w) h0 h1 h2 h3
  unfold mRing
  rw [this, if_neg (by omega)]
theorem mRing_none {p : Int} (h3 : ∀ j, 0 ≤ j → j < aPe w → ¬ jbit (mOwI w (jShl 1 p) (j + 1).toNat) p) : mRing w p = -1 := by
  have := jfirst_none (P := fun j => jbit (mOwI w (jShl 1 p) (j + 1).toNat) p) (N := aPe w) h3
  unfold mRing
  rw [this]; rfl
theorem mp_ring_1 (hsh : ShOK sh) (hfx : FxOK F) (hP : WfP (I 171)) {p : Int} (h1 : jin p) (h2 : ¬ gP (I 171) p) : jS G (d + 3) mX12_ring [jR (some 170), jI p] (sh, I, F) 0 0 (rI 0 (sh, jup I 170 0 1, F)) := by
  refine jS_go [some (jR (some 170)), some (jI p), none, none] (by decide +kernel) rfl (by simp [jone]) (Nat.le_of_ble_eq_true rfl) rfl (fun hok => ?_)
  refine j_aload_n dX12_ring_0 rfl ?_
  refine j_iconst dX12_ring_1 ?_
  refine r_putI dX12_ring_2 flX12_3 rfl (by first | assumption | exact hsh _ _ rfl) (by first | omega | (split <;> omega)) (fun q => by cases q) ?_
  skip
  have hok1 : jzok (sh, jup I 170 0 0, F) := jzok_I hok jin_lit0
  have hw0 : (jup I 170 0 0) 171 = I 171 := jup_ne _ _ _ (by decide)
  clear hok
  rw [← jup_up I 170 0 0 1]
  rw [← hw0] at hP h2
  try rw [← hw0]
  obtain ⟨I1, hI1⟩ : ∃ J, J = jup I 170 0 0 := ⟨_, rfl⟩
  rw [← hI1] at hok1 hw0 hP h2 ⊢
  have hok := hok1
  refine j_aload_n dX12_ring_5 rfl ?_
  refine j_aload_n dX12_ring_6 rfl ?_
  refine j_iload_n dX12_ring_7 rfl ?_
  refine r_cv1I dX12_ring_8 cvX12_335 (by decide) (by first | assumption | exact hsh _ _ rfl) (Nat.le_of_ble_eq_true rfl) (Nat.le_of_eq (Nat.zero_add _)) (Nat.le_of_eq (Nat.zero_add _)) (sm_noP1 hsh hfx hok (by omega) hP h2) ?_
  refine j_iconst dX12_ring_11 ?_
  refine r_cv2I dX12_ring_12 cvX12_253 (by decide) (by first | assumption | exact hsh _ _ rfl) (Nat.le_of_ble_eq_true rfl) (Nat.le_of_eq (Nat.zero_add _)) (Nat.le_of_eq (Nat.zero_add _)) (sm_thr1 hsh (by omega)) ?_
  refine j_if_eq (tgt := 20) dX12_ring_15 rfl (by first | omega | (split <;> omega)) (fun c_15 => by exact absurd c_15 (by decide)) (fun c_15 => ?_)
  refine j_iconst dX12_ring_18 ?_
  refine j_iret dX12_ring_19 rfl ?_
  exact rI_of rfl rfl
theorem mp_ring_0 (hsh : ShOK sh) (hfx : FxOK F) (hP : WfP (I 171)) {p : Int} (h1 : jin p) (h2 : gP (I 171) p) : jS G (d + 3) mX12_ring [jR (some 170), jI p] (sh, I, F) 0 0 (rI (mRing (I 171) p) (sh, jup I 170 0 0, F)) := by
  refine jS_go [some (jR (some 170)), some (jI p), none, none] (by decide +kernel) rfl (by simp [jone]) (Nat.le_of_ble_eq_true rfl) rfl (fun hok => ?_)
  refine j_aload_n dX12_ring_0 rfl ?_
  refine j_iconst dX12_ring_1 ?_
  refine r_putI dX12_ring_2 flX12_3 rfl (by first | assumption | exact hsh _ _ rfl) (by first | omega | (split <;> omega)) (fun q => by cases q) ?_
  skip
  have hok1 : jzok (sh, jup I 170 0 0, F) := jzok_I hok jin_lit0
  have hw0 : (jup I 170 0 0) 171 = I 171 := jup_ne _ _ _ (by decide)
  clear hok
  rw [← hw0] at hP h2
  try rw [← hw0]
  obtain ⟨I1, hI1⟩ : ∃ J, J = jup I 170 0 0 := ⟨_, rfl⟩
  rw [← hI1] at hok1 hw0 hP h2 ⊢
  have hok := hok1
  have hP2 := hP.2
  have loop : ∀ (m : Nat) (z : Int), z + m = aPe (I1 171) → 0 ≤ z → (∀ j, 0 ≤ j → j < z → ¬ jbit (mOwI (I1 171) (jShl 1 p) (j + 1).toNat) p) → jW G mX12_ring (d + 3) (rI (mRing (I1 171) p) (sh, I1, F)) 26 [some (jR (some 170)), some (jI p), some (jI (mOwI (I1 171) (jShl 1 p) z.toNat)), some (jI (z + 1))] [] (sh, I1, F) 0 0 := by
    intro m
    induction m with
    | zero =>
      intro z hz hz0 hj
      refine j_iload_n dX12_ring_26 rfl ?_
      refine j_aload_n dX12_ring_27 rfl ?_
      refine r_cv0J dX12_ring_28 cvX12_74 (by decide) (by first | assumption | exact hsh _ _ rfl) (Nat.le_of_ble_eq_true rfl) (Nat.le_of_eq (Nat.zero_add _)) (Nat.le_of_eq (Nat.zero_add _)) (sm_people hsh hfx) (hok.2.1 171 _) (fun b_28 => ?_)
      refine j_icmp_gt (tgt := 56) dX12_ring_31 rfl (by first | omega | (split <;> omega)) (by first | omega | (split <;> omega)) (fun c_31 => ?_) (fun c_31 => by exact absurd (by omega) c_31)
      refine j_iconst dX12_ring_56 ?_
      refine j_iret dX12_ring_57 rfl ?_
      exact rI_of (mRing_none (fun j a b => hj j a (by omega))).symm rfl
    | succ m ih =>
      intro z hz hz0 hj
      have hs := mOwI_s (I1 171) (jShl 1 p) hz0
      refine j_iload_n dX12_ring_26 rfl ?_
      refine j_aload_n dX12_ring_27 rfl ?_
      refine r_cv0J dX12_ring_28 cvX12_74 (by decide) (by first | assumption | exact hsh _ _ rfl) (Nat.le_of_ble_eq_true rfl) (Nat.le_of_eq (Nat.zero_add _)) (Nat.le_of_eq (Nat.zero_add _)) (sm_people hsh hfx) (hok.2.1 171 _) (fun b_28 => ?_)
      refine j_icmp_gt (tgt := 56) dX12_ring_31 rfl (by first | omega | (split <;> omega)) (by first | omega | (split <;> omega)) (fun c_31 => by exact absurd c_31 (by omega)) (fun c_31 => ?_)
      refine j_aload_n dX12_ring_34 rfl ?_
      refine j_iload_n dX12_ring_35 rfl ?_
      refine r_cv1I dX12_ring_36 cvX12_384 (by decide) (by first | assumption | exact hsh _ _ rfl) (Nat.le_of_ble_eq_true rfl) (Nat.le_of_eq (Nat.zero_add _)) (Nat.le_of_eq (Nat.zero_add _)) (sm_owesTo hsh hfx hP) ?_
      rw [← hs]
      refine j_istore_n dX12_ring_39 (by decide) ?_
      refine j_iload_n dX12_ring_40 rfl ?_
      refine j_iload_n dX12_ring_41 rfl ?_
      refine r_cs2I dX12_ring_42 csX12_332 (Nat.le_of_ble_eq_true rfl) (Nat.le_of_eq (Nat.zero_add _)) (Nat.le_of_eq (Nat.zero_add _)) (sm_has) ?_
      refine j_if_eq (tgt := 50) dX12_ring_45 rfl (by first | omega | (split <;> omega)) (fun c_45 => ?_) (fun c_45 => ?_)
      · rw [ite0] at c_45
        refine j_iinc dX12_ring_50 rfl (by decide) ?_
        refine j_goto (tgt := 26) dX12_ring_53 rfl ?_
        exact ih (z + 1) (by omega) (by omega) (fun j a b => by
          by_cases e : j = z
          · subst e; exact c_45
          · exact hj j a (by omega))
      · rw [ite0] at c_45
        refine j_iload_n dX12_ring_48 rfl ?_
        refine j_iret dX12_ring_49 rfl ?_
        exact rI_of (mRing_hit hz0 (by omega) (Classical.not_not.mp c_45) hj).symm rfl
  refine j_aload_n dX12_ring_5 rfl ?_
  refine j_aload_n dX12_ring_6 rfl ?_
  refine j_iload_n dX12_ring_7 rfl ?_
  refine r_cv1I dX12_ring_8 cvX12_335 (by decide) (by first | assumption | exact hsh _ _ rfl) (Nat.le_of_ble_eq_true rfl) (Nat.le_of_eq (Nat.zero_add _)) (Nat.le_of_eq (Nat.zero_add _)) (sm_noP0 hsh hfx hok (by omega) hP h2) ?_
  refine j_iconst dX12_ring_11 ?_
  refine r_cv2I dX12_ring_12 cvX12_253 (by decide) (by first | assumption | exact hsh _ _ rfl) (Nat.le_of_ble_eq_true rfl) (Nat.le_of_eq (Nat.zero_add _)) (Nat.le_of_eq (Nat.zero_add _)) (sm_thr0 hsh) ?_
  refine j_if_eq (tgt := 20) dX12_ring_15 rfl (by first | omega | (split <;> omega)) (fun c_15 => ?_) (fun c_15 => by exact absurd c_15 (by decide))
  refine j_iconst dX12_ring_20 ?_
  refine j_iload_n dX12_ring_21 rfl ?_
  refine r_ishl dX12_ring_22 (fun b_22 => ?_)
  refine j_istore_n dX12_ring_23 (by decide) ?_
  refine j_iconst dX12_ring_24 ?_
  refine j_istore_n dX12_ring_25 (by decide) ?_
  exact loop (aPe (I1 171)).toNat 0 (by omega) (by omega) (fun j a b => by omega)
theorem sc_owedBy (hs : StAt sh F s) (hR : Rp I s w) {p : Int} (h0 : 0 ≤ p ∧ p < aPe w) : jS G d mX4_owedBy [jR (some s), jI p] (sh, I, F) 0 0 (rI (mOwB w p) (sh, I, F)) := by
  obtain ⟨g0, g1, g2, g3, g4, g5, g6, g7, g8, g9, e1, e2, e3, e4, e5, e6, e7, e8, e9⟩ := id hs
  obtain ⟨r0, r1, rP, rO, rA, r9, r10, r11, r12, r13, r14, r15, r16, r17⟩ := id hR
  refine jS_go [some (jR (some s)), some (jI p), none, none] (by decide +kernel) rfl (by simp [jone]) (Nat.le_of_ble_eq_true rfl) rfl (fun hok => ?_)
  refine j_iconst dX4_owedBy_0 ?_
  refine j_istore_n dX4_owedBy_1 (by decide) ?_
  refine j_iconst dX4_owedBy_2 ?_
  refine j_istore_n dX4_owedBy_3 (by decide) ?_
  skip
  refine jW_loop 4 (fun _ _ => True) (fun q b => jOr b (if 0 < aOw w p q then jShl 1 q else 0)) 0 (aPe w) (fun z a => [some (jR (some s)), some (jI p), some (jI a), some (jI z)]) (fun _ _ => (sh, I, F)) r1.1 trivial (fun _ _ _ _ _ => trivial) (fun a ha _ => ?_) (fun z a hz0 hz1 _ ih => ?_)
  · refine j_iload_n dX4_owedBy_4 rfl ?_
    refine j_aload_n dX4_owedBy_5 rfl ?_
    refine r_getIE dX4_owedBy_6 flX4_31 (by first | assumption | exact hsh _ _ rfl) r0 (fun b_6 => ?_)
    refine j_icmp_ge (tgt := 42) dX4_owedBy_9 rfl (by first | omega | (split <;> omega)) (by first | omega | (split <;> omega)) (fun c_9 => ?_) (fun c_9 => by exact absurd (by omega) c_9)
    refine j_iload_n dX4_owedBy_42 rfl ?_
    refine j_iret dX4_owedBy_43 rfl ?_
    exact rI_of ha rfl
  · have q1 := rO p z h0.1 h0.2 hz0 hz1
    refine j_iload_n dX4_owedBy_4 rfl ?_
    refine j_aload_n dX4_owedBy_5 rfl ?_
    refine r_getIE dX4_owedBy_6 flX4_31 (by first | assumption | exact hsh _ _ rfl) r0 (fun b_6 => ?_)
    refine j_icmp_ge (tgt := 42) dX4_owedBy_9 rfl (by first | omega | (split <;> omega)) (by first | omega | (split <;> omega)) (fun c_9 => by exact absurd c_9 (by omega)) (fun c_9 => ?_)
    refine j_iload_n dX4_owedBy_12 rfl ?_
    refine j_aload_n dX4_owedBy_13 rfl ?_
    refine r_getS dX4_owedBy_14 flX4_41 (by first | assumption | exact hsh _ _ rfl) (by assumption) ?_
    refine j_iload_n dX4_owedBy_17 rfl ?_
    refine j_bipush dX4_owedBy_18 (by decide) ?_
    refine j_imul dX4_owedBy_20 ?_
    refine j_iload_n dX4_owedBy_21 rfl ?_
    refine j_iadd dX4_owedBy_22 ?_
    refine r_ialoadE dX4_owedBy_23 (by first | assumption | exact hsh _ _ rfl) (by first | omega | (split <;> omega)) (by first | omega | (split <;> omega)) q1 (fun b_23 => ?_)
    refine j_if_le (tgt := 33) dX4_owedBy_24 rfl (by first | omega | (split <;> omega)) (fun c_24 => ?_) (fun c_24 => ?_)
    · refine j_iconst dX4_owedBy_33 ?_
      refine r_ior dX4_owedBy_34 (fun b_34 => ?_)
      refine j_istore_n dX4_owedBy_35 (by decide) ?_
      refine j_iinc dX4_owedBy_36 rfl (by decide) ?_
      refine j_goto (tgt := 4) dX4_owedBy_39 rfl ?_
      first | (rw [if_pos (by omega)] at ih; exact ih) | (rw [if_neg (by omega)] at ih; exact ih)
    · refine j_iconst dX4_owedBy_27 ?_
      refine j_iload_n dX4_owedBy_28 rfl ?_
      refine r_ishl dX4_owedBy_29 (fun b_29 => ?_)
      refine j_goto (tgt := 34) dX4_owedBy_30 rfl ?_
      refine r_ior dX4_owedBy_34 (fun b_34 => ?_)
      refine j_istore_n dX4_owedBy_35 (by decide) ?_
      refine j_iinc dX4_owedBy_36 rfl (by decide) ?_
      refine j_goto (tgt := 4) dX4_owedBy_39 rfl ?_
      first | (rw [if_pos (by omega)] at ih; exact ih) | (rw [if_neg (by omega)] at ih; exact ih)
theorem sc_shortestRing (hs : StAt sh F s) (hR : Rp I s w) {p : Int} {r : Nat} (h0 : 0 ≤ p ∧ p < aPe w) : jS G (d + 1) mX4_shortestRing [jR (some r), jR (some s), jI p] (sh, I, F) 0 0 (rI (mRing w p) (sh, I, F)) := by
  obtain ⟨g0, g1, g2, g3, g4, g5, g6, g7, g8, g9, e1, e2, e3, e4, e5, e6, e7, e8, e9⟩ := id hs
  obtain ⟨r0, r1, rP, rO, rA, r9, r10, r11, r12, r13, r14, r15, r16, r17⟩ := id hR
  refine jS_go [some (jR (some r)), some (jR (some s)), some (jI p), none, none, none, none] (by decide +kernel) rfl (by simp [jone]) (Nat.le_of_ble_eq_true rfl) rfl (fun hok => ?_)
  have loop : ∀ (m : Nat) (z : Int) (o1 o2 : Option jzV), z + m = aPe w → 0 ≤ z → (∀ j, 0 ≤ j → j < z → ¬ jbit (mOwI w (jShl 1 p) (j + 1).toNat) p) → jW G mX4_shortestRing (d + 1) (rI (mRing w p) (sh, I, F)) 7 [some (jR (some r)), some (jR (some s)), some (jI p), some (jI (mOwI w (jShl 1 p) z.toNat)), some (jI (z + 1)), o1, o2] [] (sh, I, F) 0 0 := by
    intro m
    induction m with
    | zero =>
      intro z o1 o2 hz hz0 hj
      refine j_iload dX4_shortestRing_7 rfl ?_
      refine j_aload_n dX4_shortestRing_9 rfl ?_
      refine r_getIE dX4_shortestRing_10 flX4_31 (by first | assumption | exact hsh _ _ rfl) r0 (fun b_10 => ?_)
      refine j_icmp_gt (tgt := 84) dX4_shortestRing_13 rfl (by first | omega | (split <;> omega)) (by first | omega | (split <;> omega)) (fun c_13 => ?_) (fun c_13 => by exact absurd (by omega) c_13)
      refine j_iconst dX4_shortestRing_84 ?_
      refine j_iret dX4_shortestRing_85 rfl ?_
      exact rI_of (mRing_none (fun j a b => hj j a (by omega))).symm rfl
    | succ m ih =>
      intro z o1 o2 hz hz0 hj
      have hs1 := mOwI_s w (jShl 1 p) hz0
      generalize hQ : rI (mRing w p) (sh, I, F) = Q9 at ih ⊢
      generalize hx : mOwI w (jShl 1 p) z.toNat = x at hs1 ⊢
      refine j_iload dX4_shortestRing_7 rfl ?_
      refine j_aload_n dX4_shortestRing_9 rfl ?_
      refine r_getIE dX4_shortestRing_10 flX4_31 (by first | assumption | exact hsh _ _ rfl) r0 (fun b_10 => ?_)
      refine j_icmp_gt (tgt := 84) dX4_shortestRing_13 rfl (by first | omega | (split <;> omega)) (by first | omega | (split <;> omega)) (fun c_13 => by exact absurd c_13 (by omega)) (fun c_13 => ?_)
      refine j_iconst dX4_shortestRing_16 ?_
      refine j_istore dX4_shortestRing_17 (by decide) ?_
      refine j_iconst dX4_shortestRing_19 ?_
      refine j_istore dX4_shortestRing_20 (by decide) ?_
      skip
      refine jW_loop 22 (fun _ _ => True) (fun k a => jOr a (if jbit x k then mOwB w k else 0)) 0 (aPe w) (fun y a => [some (jR (some r)), some (jR (some s)), some (jI p), some (jI x), some (jI (z + 1)), some (jI a), some (jI y)]) (fun _ _ => (sh, I, F)) r1.1 trivial (fun _ _ _ _ _ => trivial) (fun a ha _ => ?_) (fun y a hy0 hy1 _ ih2 => ?_)
      · have ha2 : a = mOwI w (jShl 1 p) (z + 1).toNat := by rw [hs1, ← mOwes_C r1]; exact ha
        subst ha2
        refine j_iload dX4_shortestRing_22 rfl ?_
        refine j_aload_n dX4_shortestRing_24 rfl ?_
        refine r_getIE dX4_shortestRing_25 flX4_31 (by first | assumption | exact hsh _ _ rfl) r0 (fun b_25 => ?_)
        refine j_icmp_ge (tgt := 62) dX4_shortestRing_28 rfl (by first | omega | (split <;> omega)) (by first | omega | (split <;> omega)) (fun c_28 => ?_) (fun c_28 => by exact absurd (by omega) c_28)
        refine j_iload dX4_shortestRing_62 rfl ?_
        refine j_iload_n dX4_shortestRing_64 rfl ?_
        refine r_ishr dX4_shortestRing_65 (fun b_65 => ?_)
        refine j_iconst dX4_shortestRing_66 ?_
        refine r_iand dX4_shortestRing_67 (fun b_67 => ?_)
        refine j_iconst dX4_shortestRing_68 ?_
        refine j_icmp_ne (tgt := 75) dX4_shortestRing_69 rfl (by first | omega | (split <;> omega)) (by first | omega | (split <;> omega)) (fun c_69 => ?_) (fun c_69 => ?_)
        · refine j_iload dX4_shortestRing_75 rfl ?_
          refine j_istore_n dX4_shortestRing_77 (by decide) ?_
          refine j_iinc dX4_shortestRing_78 rfl (by decide) ?_
          refine j_goto (tgt := 7) dX4_shortestRing_81 rfl ?_
          exact ih (z + 1) _ _ (by omega) (by omega) (fun j a b => by
            by_cases e : j = z
            · subst e; exact c_69
            · exact hj j a (by omega))
        · refine j_iload dX4_shortestRing_72 rfl ?_
          refine j_iret dX4_shortestRing_74 rfl ?_
          subst hQ
          exact rI_of (mRing_hit hz0 (by omega) (Classical.not_not.mp c_69) hj).symm rfl
      · have hb := (mOwB_set r1 y).1
        refine j_iload dX4_shortestRing_22 rfl ?_
        refine j_aload_n dX4_shortestRing_24 rfl ?_
        refine r_getIE dX4_shortestRing_25 flX4_31 (by first | assumption | exact hsh _ _ rfl) r0 (fun b_25 => ?_)
        refine j_icmp_ge (tgt := 62) dX4_shortestRing_28 rfl (by first | omega | (split <;> omega)) (by first | omega | (split <;> omega)) (fun c_28 => by exact absurd c_28 (by omega)) (fun c_28 => ?_)
        refine j_iload dX4_shortestRing_31 rfl ?_
        refine j_iload_n dX4_shortestRing_33 rfl ?_
        refine j_iload dX4_shortestRing_34 rfl ?_
        refine r_ishr dX4_shortestRing_36 (fun b_36 => ?_)
        refine j_iconst dX4_shortestRing_37 ?_
        refine r_iand dX4_shortestRing_38 (fun b_38 => ?_)
        refine j_iconst dX4_shortestRing_39 ?_
        refine j_icmp_ne (tgt := 52) dX4_shortestRing_40 rfl (by first | omega | (split <;> omega)) (by first | omega | (split <;> omega)) (fun c_40 => ?_) (fun c_40 => ?_)
        · refine j_iconst dX4_shortestRing_52 ?_
          refine r_ior dX4_shortestRing_53 (fun b_53 => ?_)
          refine j_istore dX4_shortestRing_54 (by decide) ?_
          refine j_iinc dX4_shortestRing_56 rfl (by decide) ?_
          refine j_goto (tgt := 22) dX4_shortestRing_59 rfl ?_
          first | (rw [if_pos (Classical.not_not.mp c_40)] at ih2; exact ih2) | (rw [if_neg c_40] at ih2; exact ih2)
        · refine j_aload_n dX4_shortestRing_43 rfl ?_
          refine j_iload dX4_shortestRing_44 rfl ?_
          refine r_cs2I dX4_shortestRing_46 csX4_53 (Nat.le_of_ble_eq_true rfl) (Nat.le_of_eq (Nat.zero_add _)) (Nat.le_of_eq (Nat.zero_add _)) (sc_owedBy hs hR ⟨hy0, hy1⟩) ?_
          refine j_goto (tgt := 53) dX4_shortestRing_49 rfl ?_
          refine r_ior dX4_shortestRing_53 (fun b_53 => ?_)
          refine j_istore dX4_shortestRing_54 (by decide) ?_
          refine j_iinc dX4_shortestRing_56 rfl (by decide) ?_
          refine j_goto (tgt := 22) dX4_shortestRing_59 rfl ?_
          first | (rw [if_pos (Classical.not_not.mp c_40)] at ih2; exact ih2) | (rw [if_neg c_40] at ih2; exact ih2)
  refine j_iconst dX4_shortestRing_0 ?_
  refine j_iload_n dX4_shortestRing_1 rfl ?_
  refine r_ishl dX4_shortestRing_2 (fun b_2 => ?_)
  refine j_istore_n dX4_shortestRing_3 (by decide) ?_
  refine j_iconst dX4_shortestRing_4 ?_
  refine j_istore dX4_shortestRing_5 (by decide) ?_
  exact loop (aPe w).toNat 0 none none (by omega) (by omega) (fun j a b => by omega)
theorem cp_ring_0 (hsh : ShOK sh) (hfx : FxOK F) (hst : StAt sh F 2) (hR : Rp I 2 w) {p : Int} (h1 : jin p) (h2 : gP w p) : jS G (d + 2) mX11_ring [jR (some 0), jI p] (sh, I, F) 0 0 (rI (mRing w p) (sh, I, F)) := by
  refine jS_go [some (jR (some 0)), some (jI p)] (by decide +kernel) rfl (by simp [jone]) (Nat.le_of_ble_eq_true rfl) rfl (fun hok => ?_)
  refine j_aload_n dX11_ring_0 rfl ?_
  refine j_iload_n dX11_ring_1 rfl ?_
  refine r_cv1V dX11_ring_2 cvX11_119 (by decide) (by first | assumption | exact hsh _ _ rfl) (Nat.le_of_ble_eq_true rfl) (Nat.le_of_eq (Nat.zero_add _)) (Nat.le_of_eq (Nat.zero_add _)) (cg_person0 hsh hfx hR (by omega) h2) ?_
  refine j_aload_n dX11_ring_5 rfl ?_
  refine r_getS dX11_ring_6 flX11_61 (by first | assumption | exact hsh _ _ rfl) (fx_0_11 hfx) ?_
  refine j_aload_n dX11_ring_9 rfl ?_
  refine r_getS dX11_ring_10 flX11_20 (by first | assumption | exact hsh _ _ rfl) (fx_0_3 hfx) ?_
  refine j_iload_n dX11_ring_13 rfl ?_
  refine r_cv2I dX11_ring_14 cvX11_261 (by decide) (by first | assumption | exact hsh _ _ rfl) (Nat.le_of_ble_eq_true rfl) (Nat.le_of_eq (Nat.zero_add _)) (Nat.le_of_eq (Nat.zero_add _)) (sc_shortestRing hst hR (by omega)) ?_
  refine j_iret dX11_ring_17 rfl ?_
  exact rI_of rfl rfl
/-! heirs -/
abbrev WfH (w : Int → Int) : Prop := ∀ p, 0 ≤ p → p < aPe w → -1 ≤ aOf w p 4 ∧ aOf w p 4 < aPe w
def mHk (w : Int → Int) (p : Int) (n : Nat) : Int × Int := jfold (fun _ (a : Int × Int) => if a.2 < 0 then a else (jOr a.1 (jShl 1 a.2), aOf w a.2 4)) (0, aOf w p 4) n
theorem mHk_s (w : Int → Int) (p : Int) {z : Int} (h : 0 ≤ z) : mHk w p (z + 1).toNat = if (mHk w p z.toNat).2 < 0 then mHk w p z.toNat else (jOr (mHk w p z.toNat).1 (jShl 1 (mHk w p z.toNat).2), aOf w (mHk w p z.toNat).2 4) := jfold_s _ _ h
abbrev mHeirs (w : Int → Int) (p : Int) : Int := (mHk w p 8).1
/-- how far the heirs have come -/
def vHk (w : Int → Int) (k : Int) (a : Int × Int) : Prop := (0 ≤ a.1 ∧ a.1 < 256) ∧ (-1 ≤ a.2 ∧ a.2 < aPe w) ∧ (∀ x, 0 ≤ x → x < 31 → jbit a.1 x → x < aPe w ∧ (aOf w x 4 = a.2 ∨ (0 ≤ aOf w x 4 ∧ jbit a.1 (aOf w x 4))))
theorem mHk_v (hP : 0 ≤ aPe w ∧ aPe w ≤ 8) (hH : WfH w) {p : Int} (h0 : 0 ≤ p ∧ p < aPe w) (n : Nat) : vHk w n (mHk w p n) := by
  refine jfold_ind (f := fun _ (a : Int × Int) => if a.2 < 0 then a else (jOr a.1 (jShl 1 a.2), aOf w a.2 4)) (a := (0, aOf w p 4)) (fun k a => vHk w k a) ⟨by show (0 : Int) ≤ 0 ∧ (0 : Int) < 256; decide, hH p h0.1 h0.2, fun x hx0 hx1 q => absurd q (jbit_0 hx0 hx1)⟩ (n := n) (fun k a k0 k1 ih => ?_)
  obtain ⟨i1, i2, i3⟩ := ih
  by_cases e : a.2 < 0
  · rw [if_pos e]; exact ⟨i1, i2, i3⟩
  · rw [if_neg e]
    have hs := jShl_set (p := a.2) (by omega) (by omega)
    have ho := jOr_set i1 (b := jShl 1 a.2) (by omega)
    refine ⟨ho.1, hH a.2 (by omega) (by omega), fun x hx0 hx1 q => ?_⟩
    have q2 := (ho.2.2 x hx0 hx1).mp q
    rw [hs.2 x hx0 hx1] at q2
    by_cases e2 : x = a.2
    · subst e2; exact ⟨i2.2, Or.inl rfl⟩
    · obtain ⟨j1, j2⟩ := i3 x hx0 hx1 (q2.resolve_right e2)
      refine ⟨j1, Or.inr ?_⟩
      rcases j2 with j2 | ⟨j2, j3⟩
      · have : 0 ≤ aOf w x 4 := by omega
        exact ⟨this, (ho.2.2 _ this (by omega)).mpr (Or.inr ((hs.2 _ this (by omega)).mpr j2))⟩
      · exact ⟨j2, (ho.2.2 _ j2 (by have := (i3 _ j2 (by have := hH x hx0 j1; omega) j3).1; omega)).mpr (Or.inl j3)⟩
/-- once back where one was, the set stays -/
theorem mHk_stay (hP : 0 ≤ aPe w ∧ aPe w ≤ 8) (hH : WfH w) {p : Int} (h0 : 0 ≤ p ∧ p < aPe w) {n : Nat} (h : (mHk w p n).2 < 0 ∨ jbit (mHk w p n).1 (mHk w p n).2) : ∀ k : Nat, (mHk w p (n + k)).1 = (mHk w p n).1 ∧ ((mHk w p (n + k)).2 < 0 ∨ jbit (mHk w p n).1 (mHk w p (n + k)).2)
  | 0 => ⟨rfl, h⟩
  | k + 1 => by
    obtain ⟨i1, i2⟩ := mHk_stay hP hH h0 h k
    have hs := mHk_s w p (z := ((n + k : Nat) : Int)) (by omega)
    rw [show (((n + k : Nat) : Int) + 1).toNat = n + (k + 1) by omega, show (((n + k : Nat) : Int)).toNat = n + k by omega] at hs
    rw [hs]
    obtain ⟨v1, v2, v3⟩ := mHk_v hP hH h0 (n + k)
    by_cases e : (mHk w p (n + k)).2 < 0
    · rw [if_pos e]; exact ⟨i1, i2⟩
    · rw [if_neg e]
      have hb := i2.resolve_left e
      rw [← i1] at hb ⊢
      have hsl := jShl_set (p := (mHk w p (n + k)).2) (by omega) (by omega)
      have ho := jOr_set v1 (b := jShl 1 (mHk w p (n + k)).2) (by omega)
      have e1 : jOr (mHk w p (n + k)).1 (jShl 1 (mHk w p (n + k)).2) = (mHk w p (n + k)).1 := jset_ext ho.1 v1 (fun x hx0 hx1 => by
        rw [ho.2.2 x hx0 (by omega), hsl.2 x hx0 (by omega)]
        constructor
        · rintro (a | rfl)
          · exact a
          · exact hb
        · exact Or.inl)
      refine ⟨e1, ?_⟩
      obtain ⟨j1, j2⟩ := v3 _ (by omega) (by omega) hb
      dsimp only
      rcases j2 with j2 | ⟨j2, j3⟩
      · rw [j2]; exact Or.inr hb
      · exact Or.inr j3
/-- after 8 steps one is at an end, or back -/
theorem mHk_8 (hP : 0 ≤ aPe w ∧ aPe w ≤ 8) (hH : WfH w) {p : Int} (h0 : 0 ≤ p ∧ p < aPe w) : (mHk w p 8).2 < 0 ∨ jbit (mHk w p 8).1 (mHk w p 8).2 := by
  have key : ∀ n : Nat, (∃ m, m ≤ n ∧ ((mHk w p m).2 < 0 ∨ jbit (mHk w p m).1 (mHk w p m).2)) ∨ n ≤ fb_ct (fun i => decide (jbit (mHk w p n).1 (i : Int))) 8 := by
    intro n
    induction n with
    | zero => exact Or.inr (Nat.zero_le _)
    | succ n ih =>
      rcases ih with ⟨m, a, b⟩ | ih
      · exact Or.inl ⟨m, by omega, b⟩
      · by_cases e : (mHk w p n).2 < 0 ∨ jbit (mHk w p n).1 (mHk w p n).2
        · exact Or.inl ⟨n, by omega, e⟩
        · right
          have hs := mHk_s w p (z := ((n : Nat) : Int)) (by omega)
          rw [show (((n : Nat) : Int) + 1).toNat = n + 1 by omega, show (((n : Nat) : Int)).toNat = n by omega] at hs
          obtain ⟨v1, v2, v3⟩ := mHk_v hP hH h0 n
          have e1 : ¬ (mHk w p n).2 < 0 := fun z => e (Or.inl z)
          have e2 : ¬ jbit (mHk w p n).1 (mHk w p n).2 := fun z => e (Or.inr z)
          rw [if_neg e1] at hs
          have hsl := jShl_set (p := (mHk w p n).2) (by omega) (by omega)
          have ho := jOr_set v1 (b := jShl 1 (mHk w p n).2) (by omega)
          have ee : fb_ct (fun i => decide (jbit (mHk w p (n + 1)).1 (i : Int))) 8 = fb_ct (fun i => decide (jbit (mHk w p n).1 (i : Int)) || decide ((i : Int) = (mHk w p n).2)) 8 := by
            refine fb_ct_cong (fun k hk => ?_)
            rw [hs]
            have := ho.2.2 (k : Int) (by omega) (by omega)
            rw [hsl.2 (k : Int) (by omega) (by omega)] at this
            by_cases a : jbit (mHk w p n).1 (k : Int)
            · rw [decide_eq_true a, decide_eq_true (this.mpr (Or.inl a))]; rfl
            · by_cases b : (k : Int) = (mHk w p n).2
              · rw [decide_eq_true b, decide_eq_true (this.mpr (Or.inr b)), Bool.or_true]
              · rw [decide_eq_false a, decide_eq_false b, decide_eq_false (fun z => (this.mp z).elim a b)]; rfl
          rw [ee, fb_ct_or (fun k hk => by
            by_cases b : (k : Int) = (mHk w p n).2
            · rw [b, decide_eq_false e2]; simp
            · rw [decide_eq_false b]; simp)]
          have : 0 < fb_ct (fun i => decide ((i : Int) = (mHk w p n).2)) 8 := fb_ct_pos.mpr ⟨(mHk w p n).2.toNat, by omega, decide_eq_true (by omega)⟩
          omega
  rcases key 9 with ⟨m, a, b⟩ | h9
  · by_cases e9 : m = 9
    · subst e9
      refine Classical.byContradiction (fun hc => ?_)
      rcases key 8 with ⟨m, a, b⟩ | h8
      · have := (mHk_stay hP hH h0 b (8 - m))
        rw [show m + (8 - m) = 8 by omega] at this
        rw [← this.1] at this
        exact hc this.2
      · have hall := fb_ct_all.mp (Nat.le_antisymm (fb_ct_le (fun i => decide (jbit (mHk w p 8).1 (i : Int))) 8) h8)
        obtain ⟨v1, v2, v3⟩ := mHk_v hP hH h0 8
        by_cases e : (mHk w p 8).2 < 0
        · exact hc (Or.inl e)
        · have := hall (mHk w p 8).2.toNat (by omega)
          rw [show (((mHk w p 8).2.toNat : Nat) : Int) = (mHk w p 8).2 by omega] at this
          exact hc (Or.inr (of_decide_eq_true this))
    · have := (mHk_stay hP hH h0 b (8 - m))
      rw [show m + (8 - m) = 8 by omega] at this
      rw [← this.1] at this
      exact this.2
  · exact absurd (fb_ct_le (fun i => decide (jbit (mHk w p 9).1 (i : Int))) 8) (by omega)
theorem mHeirs_at (hP : 0 ≤ aPe w ∧ aPe w ≤ 8) (hH : WfH w) {p k : Int} (h0 : 0 ≤ p ∧ p < aPe w) (hk : 0 ≤ k ∧ k ≤ 8) (h : (mHk w p k.toNat).2 < 0 ∨ jbit (mHk w p k.toNat).1 (mHk w p k.toNat).2) : (mHk w p k.toNat).1 = mHeirs w p := by
  have := (mHk_stay hP hH h0 h (8 - k.toNat)).1
  rw [show k.toNat + (8 - k.toNat) = 8 by omega] at this
  exact this.symm
theorem sm_heirsOf (hsh : ShOK sh) (hfx : FxOK F) (hP : WfP (I 171)) (hH : WfH (I 171)) {p : Int} (h0 : 0 ≤ p ∧ p < aPe (I 171)) : jS G (d + 2) mX12_heirsOf [jR (some 170), jI p] (sh, I, F) 0 0 (rI (mHeirs (I 171) p) (sh, I, F)) := by
  have hP2 := hP.2
  refine jS_go [some (jR (some 170)), some (jI p), none, none] (by decide +kernel) rfl (by simp [jone]) (Nat.le_of_ble_eq_true rfl) rfl (fun hok => ?_)
  have loop : ∀ (m : Nat) (z : Int), z + m = 8 → 0 ≤ z → jW G mX12_heirsOf (d + 2) (rI (mHeirs (I 171) p) (sh, I, F)) 9 [some (jR (some 170)), some (jI p), some (jI (mHk (I 171) p z.toNat).1), some (jI (mHk (I 171) p z.toNat).2)] [] (sh, I, F) 0 0 := by
    intro m
    induction m with
    | zero =>
      intro z hz hz0
      have h8 := mHk_8 hP hH h0
      have e8 : z.toNat = 8 := by omega
      have ha := mHeirs_at hP hH h0 (k := z) (by omega) (by rw [e8]; exact h8)
      obtain ⟨v1, v2, v3⟩ := mHk_v hP hH h0 z.toNat
      rw [e8] at ha v1 v2 ⊢
      refine j_iload_n dX12_heirsOf_9 rfl ?_
      refine j_if_lt (tgt := 37) dX12_heirsOf_10 rfl (by first | omega | (split <;> omega)) (fun c_10 => ?_) (fun c_10 => ?_)
      · refine j_iload_n dX12_heirsOf_37 rfl ?_
        refine j_iret dX12_heirsOf_38 rfl ?_
        exact rI_of ha rfl
      · refine j_iload_n dX12_heirsOf_13 rfl ?_
        refine j_iload_n dX12_heirsOf_14 rfl ?_
        refine r_cs2I dX12_heirsOf_15 csX12_332 (Nat.le_of_ble_eq_true rfl) (Nat.le_of_eq (Nat.zero_add _)) (Nat.le_of_eq (Nat.zero_add _)) (sm_has) ?_
        refine j_if_ne (tgt := 37) dX12_heirsOf_18 rfl (by first | omega | (split <;> omega)) (fun c_18 => ?_) (fun c_18 => ?_)
        · skip
          refine j_iload_n dX12_heirsOf_37 rfl ?_
          refine j_iret dX12_heirsOf_38 rfl ?_
          exact rI_of ha rfl
        · simp only [ite0, ne_eq, Classical.not_not] at c_18
          exact absurd (h8.resolve_left (by omega)) c_18
    | succ m ih =>
      intro z hz hz0
      have hs := mHk_s (I 171) p hz0
      have ha := mHeirs_at hP hH h0 (k := z) (by omega)
      obtain ⟨v1, v2, v3⟩ := mHk_v hP hH h0 z.toNat
      have ih2 := ih (z + 1) (by omega) (by omega)
      rw [hs] at ih2
      refine j_iload_n dX12_heirsOf_9 rfl ?_
      refine j_if_lt (tgt := 37) dX12_heirsOf_10 rfl (by first | omega | (split <;> omega)) (fun c_10 => ?_) (fun c_10 => ?_)
      · have hr := ha (Or.inl c_10)
        refine j_iload_n dX12_heirsOf_37 rfl ?_
        refine j_iret dX12_heirsOf_38 rfl ?_
        exact rI_of hr rfl
      · rw [if_neg c_10] at ih2
        refine j_iload_n dX12_heirsOf_13 rfl ?_
        refine j_iload_n dX12_heirsOf_14 rfl ?_
        refine r_cs2I dX12_heirsOf_15 csX12_332 (Nat.le_of_ble_eq_true rfl) (Nat.le_of_eq (Nat.zero_add _)) (Nat.le_of_eq (Nat.zero_add _)) (sm_has) ?_
        refine j_if_ne (tgt := 37) dX12_heirsOf_18 rfl (by first | omega | (split <;> omega)) (fun c_18 => ?_) (fun c_18 => ?_)
        · simp only [ite0, ne_eq, Classical.not_not] at c_18
          have hr := ha (Or.inr c_18)
          refine j_iload_n dX12_heirsOf_37 rfl ?_
          refine j_iret dX12_heirsOf_38 rfl ?_
          exact rI_of hr rfl
        · refine j_iload_n dX12_heirsOf_21 rfl ?_
          refine j_iconst dX12_heirsOf_22 ?_
          refine j_iload_n dX12_heirsOf_23 rfl ?_
          refine r_ishl dX12_heirsOf_24 (fun b_24 => ?_)
          refine r_ior dX12_heirsOf_25 (fun b_25 => ?_)
          refine j_istore_n dX12_heirsOf_26 (by decide) ?_
          refine j_aload_n dX12_heirsOf_27 rfl ?_
          refine j_iload_n dX12_heirsOf_28 rfl ?_
          refine j_iconst dX12_heirsOf_29 ?_
          refine r_cv2J dX12_heirsOf_30 cvX12_68 (by decide) (by first | assumption | exact hsh _ _ rfl) (Nat.le_of_ble_eq_true rfl) (Nat.le_of_eq (Nat.zero_add _)) (Nat.le_of_eq (Nat.zero_add _)) (sm_of hsh hfx (by omega)) (hok.2.1 171 _) (fun b_30 => ?_)
          refine j_istore_n dX12_heirsOf_33 (by decide) ?_
          refine j_goto (tgt := 9) dX12_heirsOf_34 rfl ?_
          exact ih2
  refine j_iconst dX12_heirsOf_0 ?_
  refine j_istore_n dX12_heirsOf_1 (by decide) ?_
  refine j_aload_n dX12_heirsOf_2 rfl ?_
  refine j_iload_n dX12_heirsOf_3 rfl ?_
  refine j_iconst dX12_heirsOf_4 ?_
  refine r_cv2J dX12_heirsOf_5 cvX12_68 (by decide) (by first | assumption | exact hsh _ _ rfl) (Nat.le_of_ble_eq_true rfl) (Nat.le_of_eq (Nat.zero_add _)) (Nat.le_of_eq (Nat.zero_add _)) (sm_of hsh hfx (by omega)) (hok.2.1 171 _) (fun b_5 => ?_)
  refine j_istore_n dX12_heirsOf_8 (by decide) ?_
  exact loop 8 0 (by omega) (by omega)
theorem sc_heirs (hs : StAt sh F s) (hR : Rp I s w) (hH : WfH w) {p : Int} (h0 : 0 ≤ p ∧ p < aPe w) : jS G d mX1_heirs [jR (some s), jI p] (sh, I, F) 0 0 (rI (mHeirs w p) (sh, I, F)) := by
  obtain ⟨g0, g1, g2, g3, g4, g5, g6, g7, g8, g9, e1, e2, e3, e4, e5, e6, e7, e8, e9⟩ := id hs
  obtain ⟨r0, r1, rP, rO, rA, r9, r10, r11, r12, r13, r14, r15, r16, r17⟩ := id hR
  have u := rP p h0.1 h0.2
  refine jS_go [some (jR (some s)), some (jI p), none, none, none] (by decide +kernel) rfl (by simp [jone]) (Nat.le_of_ble_eq_true rfl) rfl (fun hok => ?_)
  have loop : ∀ (m : Nat) (z : Int), z + m = 8 → 0 ≤ z → jW G mX1_heirs d (rI (mHeirs w p) (sh, I, F)) 12 [some (jR (some s)), some (jI p), some (jI (mHk w p z.toNat).1), some (jI (mHk w p z.toNat).2), some (jI z)] [] (sh, I, F) 0 0 := by
    intro m
    induction m with
    | zero =>
      intro z hz hz0
      have e8 : z.toNat = 8 := by omega
      refine j_iload dX1_heirs_12 rfl ?_
      refine j_bipush dX1_heirs_14 (by decide) ?_
      refine j_icmp_ge (tgt := 48) dX1_heirs_16 rfl (by first | omega | (split <;> omega)) (by first | omega | (split <;> omega)) (fun c_16 => ?_) (fun c_16 => by exact absurd (by omega) c_16)
      refine j_iload_n dX1_heirs_48 rfl ?_
      refine j_iret dX1_heirs_49 rfl ?_
      exact rI_of (by rw [e8]) rfl
    | succ m ih =>
      intro z hz hz0
      have hs1 := mHk_s w p hz0
      have ha := mHeirs_at r1 hH h0 (k := z) (by omega)
      obtain ⟨v1, v2, v3⟩ := mHk_v r1 hH h0 z.toNat
      have ih2 := ih (z + 1) (by omega) (by omega)
      rw [hs1] at ih2
      refine j_iload dX1_heirs_12 rfl ?_
      refine j_bipush dX1_heirs_14 (by decide) ?_
      refine j_icmp_ge (tgt := 48) dX1_heirs_16 rfl (by first | omega | (split <;> omega)) (by first | omega | (split <;> omega)) (fun c_16 => by exact absurd c_16 (by omega)) (fun c_16 => ?_)
      refine j_iload_n dX1_heirs_19 rfl ?_
      refine j_if_lt (tgt := 48) dX1_heirs_20 rfl (by first | omega | (split <;> omega)) (fun c_20 => ?_) (fun c_20 => ?_)
      · have hr := ha (Or.inl c_20)
        refine j_iload_n dX1_heirs_48 rfl ?_
        refine j_iret dX1_heirs_49 rfl ?_
        exact rI_of hr rfl
      · rw [if_neg c_20] at ih2
        have u2 := rP (mHk w p z.toNat).2 (by omega) v2.2
        refine j_iload_n dX1_heirs_23 rfl ?_
        refine j_bipush dX1_heirs_24 (by decide) ?_
        refine j_icmp_ge (tgt := 48) dX1_heirs_26 rfl (by first | omega | (split <;> omega)) (by first | omega | (split <;> omega)) (fun c_26 => by exact absurd c_26 (by omega)) (fun c_26 => ?_)
        refine j_iload_n dX1_heirs_29 rfl ?_
        refine j_iconst dX1_heirs_30 ?_
        refine j_iload_n dX1_heirs_31 rfl ?_
        refine r_ishl dX1_heirs_32 (fun b_32 => ?_)
        refine r_ior dX1_heirs_33 (fun b_33 => ?_)
        refine j_istore_n dX1_heirs_34 (by decide) ?_
        refine j_aload_n dX1_heirs_35 rfl ?_
        refine r_getS dX1_heirs_36 flX1_23 (by first | assumption | exact hsh _ _ rfl) (by assumption) ?_
        refine j_iload_n dX1_heirs_39 rfl ?_
        refine r_ialoadE dX1_heirs_40 (by first | assumption | exact hsh _ _ rfl) (by first | omega | (split <;> omega)) (by first | omega | (split <;> omega)) u2.2.2.2.2.1 (fun b_40 => ?_)
        refine j_istore_n dX1_heirs_41 (by decide) ?_
        refine j_iinc dX1_heirs_42 rfl (by decide) ?_
        refine j_goto (tgt := 12) dX1_heirs_45 rfl ?_
        exact ih2
  refine j_iconst dX1_heirs_0 ?_
  refine j_istore_n dX1_heirs_1 (by decide) ?_
  refine j_aload_n dX1_heirs_2 rfl ?_
  refine r_getS dX1_heirs_3 flX1_23 (by first | assumption | exact hsh _ _ rfl) (by assumption) ?_
  refine j_iload_n dX1_heirs_6 rfl ?_
  refine r_ialoadE dX1_heirs_7 (by first | assumption | exact hsh _ _ rfl) (by first | omega | (split <;> omega)) (by first | omega | (split <;> omega)) u.2.2.2.2.1 (fun b_7 => ?_)
  refine j_istore_n dX1_heirs_8 (by decide) ?_
  refine j_iconst dX1_heirs_9 ?_
  refine j_istore dX1_heirs_10 (by decide) ?_
  exact loop 8 0 (by omega) (by omega)
end
