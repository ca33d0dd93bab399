/-! RUNS -/
abbrev aCan (w : Int → Int) (x p : Int) : Prop := aOf w p 3 = 0 ∧ 0 < aOf w p 1 ∧ jAnd (aOf w p 5) x ≠ 0
def mNx (w : Int → Int) (x : Int) : Int := jfold (fun p a => jOr a (if aCan w x p then jShl 1 p else 0)) x (aPe w).toNat
theorem mNx_set {w : Int → Int} (hP : 0 ≤ aPe w ∧ aPe w ≤ 8) {x : Int} (hx : 0 ≤ x ∧ x < 256) : (0 ≤ mNx w x ∧ mNx w x < 256) ∧ x ≤ mNx w x ∧ ∀ p : Int, 0 ≤ p → p < 31 → (jbit (mNx w x) p ↔ jbit x p ∨ (p < aPe w ∧ aCan w x p)) := by
  have := jfold_ind (f := fun p a => jOr a (if aCan w x p then jShl 1 p else 0)) (a := x) (fun k a => (0 ≤ a ∧ a < 256) ∧ x ≤ a ∧ ∀ p : Int, 0 ≤ p → p < 31 → (jbit a p ↔ jbit x p ∨ (p < k ∧ aCan w x p))) ⟨hx, Int.le_refl _, fun p h0 h1 => ⟨fun q => Or.inl q, fun q => q.elim id (fun z => by omega)⟩⟩ (n := (aPe w).toNat) (fun k y h0 h1 q => by
    have hy : 0 ≤ (if aCan w x k then jShl 1 k else 0) ∧ (if aCan w x k then jShl 1 k else 0) < 256 := by
      have := (jShl_set h0 (by omega)).1
      split <;> omega
    have h2 := jOr_set q.1 hy
    refine ⟨h2.1, Int.le_trans q.2.1 h2.2.1, fun p hp0 hp1 => ?_⟩
    rw [h2.2.2 p hp0 hp1, q.2.2 p hp0 hp1]
    by_cases e : aCan w x k
    · rw [if_pos e, (jShl_set h0 (by omega)).2 p hp0 hp1]
      constructor
      · rintro ((a | ⟨a, b⟩) | rfl)
        · exact Or.inl a
        · exact Or.inr ⟨by omega, b⟩
        · exact Or.inr ⟨by omega, e⟩
      · rintro (a | ⟨a, b⟩)
        · exact Or.inl (Or.inl a)
        · by_cases e2 : p = k
          · exact Or.inr e2
          · exact Or.inl (Or.inr ⟨by omega, b⟩)
    · rw [if_neg e]
      constructor
      · rintro ((a | ⟨a, b⟩) | b)
        · exact Or.inl a
        · exact Or.inr ⟨by omega, b⟩
        · exact absurd b (jbit_0 hp0 hp1)
      · rintro (a | ⟨a, b⟩)
        · exact Or.inl (Or.inl a)
        · by_cases e2 : p = k
          · subst e2; exact absurd b e
          · exact Or.inl (Or.inr ⟨by omega, b⟩))
  rw [show (((aPe w).toNat : Nat) : Int) = aPe w by omega] at this
  exact this
/-- again and again -/
def mIt (w : Int → Int) (x : Int) (n : Nat) : Int := jfold (fun _ a => mNx w a) x n
theorem mIt_s (w : Int → Int) (x : Int) (n : Nat) : mIt w x (n + 1) = mNx w (mIt w x n) := rfl
theorem mIt_c (w : Int → Int) (x : Int) : ∀ n : Nat, mIt w (mNx w x) n = mNx w (mIt w x n)
  | 0 => rfl
  | n + 1 => by rw [mIt_s, mIt_s, mIt_c w x n]
theorem mIt_in {w : Int → Int} (hP : 0 ≤ aPe w ∧ aPe w ≤ 8) {x : Int} (hx : 0 ≤ x ∧ x < 256) : ∀ n : Nat, 0 ≤ mIt w x n ∧ mIt w x n < 256
  | 0 => hx
  | n + 1 => by rw [mIt_s]; exact (mNx_set hP (mIt_in hP hx n)).1
theorem mIt_fix {w : Int → Int} {x : Int} {n : Nat} (h : mNx w (mIt w x n) = mIt w x n) : ∀ k : Nat, mIt w x (n + k) = mIt w x n
  | 0 => rfl
  | k + 1 => by rw [← Nat.add_assoc, mIt_s, mIt_fix h k, h]
theorem mIt_up {w : Int → Int} (hP : 0 ≤ aPe w ∧ aPe w ≤ 8) {x : Int} (hx : 0 ≤ x ∧ x < 256) : ∀ n : Nat, mNx w (mIt w x n) = mIt w x n ∨ x + n ≤ mIt w x n
  | 0 => Or.inr (by show x + ((0 : Nat) : Int) ≤ x; omega)
  | n + 1 => by
    rcases mIt_up hP hx n with q | q
    · left
      rw [mIt_s, q, q]
    · by_cases e : mNx w (mIt w x n) = mIt w x n
      · left
        rw [mIt_s, e, e]
      · right
        have := (mNx_set hP (mIt_in hP hx n)).2.1
        rw [mIt_s]
        omega
/-- a run's end -/
def mRun (w : Int → Int) (x : Int) : Int := mIt w x 256
theorem mRun_fix {w : Int → Int} (hP : 0 ≤ aPe w ∧ aPe w ≤ 8) {x : Int} (hx : 0 ≤ x ∧ x < 256) : mNx w (mRun w x) = mRun w x := by
  rcases mIt_up hP hx 256 with q | q
  · exact q
  · have := mIt_in hP hx 256
    unfold mRun
    omega
theorem mRun_nx {w : Int → Int} (hP : 0 ≤ aPe w ∧ aPe w ≤ 8) {x : Int} (hx : 0 ≤ x ∧ x < 256) : mRun w (mNx w x) = mRun w x := by
  unfold mRun
  rw [mIt_c]
  exact mRun_fix hP hx
theorem mRun_of {w : Int → Int} {x : Int} (h : mNx w x = x) : mRun w x = x := by
  have := mIt_fix (w := w) (x := x) (n := 0) h 256
  rw [Nat.zero_add] at this
  exact this
theorem mRun_at {w : Int → Int} {x : Int} {n : Nat} (h : mNx w (mIt w x n) = mIt w x n) (hn : n ≤ 256) : mRun w x = mIt w x n := by
  have := mIt_fix h (256 - n)
  rw [show n + (256 - n) = 256 by omega] at this
  exact this
theorem mRun_in {w : Int → Int} (hP : 0 ≤ aPe w ∧ aPe w ≤ 8) {x : Int} (hx : 0 ≤ x ∧ x < 256) : 0 ≤ mRun w x ∧ mRun w x < 256 := mIt_in hP hx 256
/-- how many are in a set -/
def mCt (w : Int → Int) (x : Int) : Nat := fb_ct (fun i => decide (jbit x (i : Int))) (aPe w).toNat
theorem mCt_lt {w : Int → Int} (hP : 0 ≤ aPe w ∧ aPe w ≤ 8) {x : Int} (hx : 0 ≤ x ∧ x < 256) (h : mNx w x ≠ x) : mCt w x + 1 ≤ mCt w (mNx w x) := by
  have hn := mNx_set hP hx
  have hex : ∃ i : Nat, i < (aPe w).toNat ∧ jbit (mNx w x) (i : Int) ∧ ¬ jbit x (i : Int) := by
    refine Classical.byContradiction (fun hc => h (jset_ext hn.1 hx (fun p h0 h1 => ⟨fun q => ?_, fun q => ?_⟩)))
    · rcases (hn.2.2 p h0 (by omega)).mp q with z | ⟨z, z2⟩
      · exact z
      · refine Classical.byContradiction (fun z3 => hc ⟨p.toNat, by omega, ?_, ?_⟩)
        · rw [show ((p.toNat : Nat) : Int) = p by omega]; exact q
        · rw [show ((p.toNat : Nat) : Int) = p by omega]; exact z3
    · exact (hn.2.2 p h0 (by omega)).mpr (Or.inl q)
  have e : mCt w (mNx w x) = fb_ct (fun i => decide (jbit x (i : Int)) || (decide (jbit (mNx w x) (i : Int)) && !decide (jbit x (i : Int)))) (aPe w).toNat := by
    refine fb_ct_cong (fun k hk => ?_)
    have h1 := hn.2.2 (k : Int) (by omega) (by omega)
    by_cases a : jbit x (k : Int)
    · have b := h1.mpr (Or.inl a)
      rw [decide_eq_true a, decide_eq_true b]; rfl
    · rw [decide_eq_false a, Bool.false_or, Bool.not_false, Bool.and_true]
  rw [e, fb_ct_or (fun k hk => by simp; intro a b; exact a)]
  have : 0 < fb_ct (fun i => decide (jbit (mNx w x) (i : Int)) && !decide (jbit x (i : Int))) (aPe w).toNat := by
    obtain ⟨i, h1, h2, h3⟩ := hex
    exact fb_ct_pos.mpr ⟨i, h1, by rw [decide_eq_true h2, decide_eq_false h3]; rfl⟩
  unfold mCt
  omega
theorem mIt_ct {w : Int → Int} (hP : 0 ≤ aPe w ∧ aPe w ≤ 8) {x : Int} (hx : 0 ≤ x ∧ x < 256) (h1 : 1 ≤ mCt w x) : ∀ n : Nat, mNx w (mIt w x n) = mIt w x n ∨ 1 + n ≤ mCt w (mIt w x n)
  | 0 => Or.inr (by show 1 + 0 ≤ mCt w x; omega)
  | n + 1 => by
    rcases mIt_ct hP hx h1 n with q | q
    · left
      rw [mIt_s, q, q]
    · by_cases e : mNx w (mIt w x n) = mIt w x n
      · left
        rw [mIt_s, e, e]
      · right
        have := mCt_lt hP (mIt_in hP hx n) e
        rw [mIt_s]
        omega
theorem mRun_few {w : Int → Int} (hP : 0 ≤ aPe w ∧ aPe w ≤ 8) {x : Int} (hx : 0 ≤ x ∧ x < 256) (h1 : 1 ≤ mCt w x) : mRun w x = mIt w x (aPe w).toNat := by
  refine mRun_at ?_ (by omega)
  rcases mIt_ct hP hx h1 (aPe w).toNat with q | q
  · exact q
  · have := fb_ct_le (fun i => decide (jbit (mIt w x (aPe w).toNat) (i : Int))) (aPe w).toNat
    unfold mCt at q
    omega
theorem jOr_0 {a : Int} (h : jin a) : jOr a 0 = a := by
  unfold jOr
  rw [show Int32.ofInt 0 = 0 from rfl, Int32.or_zero, jn_toInt h]
section
variable {G : jzG} {d : Nat} {sh : List (Nat × Nat)} {I : Nat → Int → Int} {F : Nat → Int → Option Nat}
theorem sm_runFrom (hsh : ShOK sh) (hfx : FxOK F) (hP : WfP (I 171)) {set : Int} (hx : 0 ≤ set ∧ set < 256) : jS G (d + 3) mX12_runFrom [jR (some 170), jI set] (sh, I, F) 0 0 (rI (mRun (I 171) set) (sh, I, F)) := by
  refine jS_go [some (jR (some 170)), some (jI set), none, none, none] (by decide +kernel) rfl (by simp [jone]) (Nat.le_of_ble_eq_true rfl) rfl (fun hok => ?_)
  have loop : ∀ (n : Nat) (b h : Int) (o : Option jzV), (256 - b).toNat * 2 + (if b = h then 0 else 1) ≤ n → (0 ≤ b ∧ b < 256) → (h = -1 ∨ ((0 ≤ h ∧ h < 256) ∧ b = mNx (I 171) h)) → mRun (I 171) b = mRun (I 171) set → jW G mX12_runFrom (d + 3) (rI (mRun (I 171) set) (sh, I, F)) 4 [some (jR (some 170)), some (jI set), some (jI b), some (jI h), o] [] (sh, I, F) 0 0 := by
    intro n
    induction n with
    | zero =>
      intro b h o hm hb hh hr
      omega
    | succ n ih =>
      intro b h o hm hb hh hr
      have hnb := mNx_set hP hb
      have inner : ¬ b = h → jW G mX12_runFrom (d + 3) (rI (mRun (I 171) set) (sh, I, F)) 14 [some (jR (some 170)), some (jI set), some (jI b), some (jI b), some (jI 0)] [] (sh, I, F) 0 0 := by
        intro hne
        refine jW_loop 14 (fun _ _ => True) (fun p a => jOr a (if aCan (I 171) b p then jShl 1 p else 0)) b (aPe (I 171)) (fun z a => [some (jR (some 170)), some (jI set), some (jI a), some (jI b), some (jI z)]) (fun _ _ => (sh, I, F)) hP.1 trivial (fun _ _ _ _ _ => trivial) (fun a ha _ => ?_) (fun z a hz0 hz1 _ ih2 => ?_)
        · have ha2 : a = mNx (I 171) b := ha
          refine j_iload dX12_runFrom_14 rfl ?_
          refine j_aload_n dX12_runFrom_16 rfl ?_
          refine r_cv0J dX12_runFrom_17 cvX12_74 (by decide) (by first | assumption | exact hsh _ _ rfl) (Nat.le_of_ble_eq_true rfl) (Nat.le_of_eq (Nat.zero_add _)) (Nat.le_of_eq (Nat.zero_add _)) (sm_people hsh hfx) (hok.2.1 171 _) (fun b_17 => ?_)
          refine j_icmp_ge (tgt := 71) dX12_runFrom_20 rfl (by first | omega | (split <;> omega)) (by first | omega | (split <;> omega)) (fun c_20 => ?_) (fun c_20 => ?_)
          · refine j_goto (tgt := 4) dX12_runFrom_71 rfl ?_
            subst ha2
            exact ih _ b _ (by rw [if_neg hne] at hm; split <;> omega) hnb.1 (Or.inr ⟨hb, rfl⟩) (by rw [mRun_nx hP hb]; exact hr)
          · exact absurd (by omega) c_20
        · have hP2 := hP.2
          have hP3 := hP.1
          refine j_iload dX12_runFrom_14 rfl ?_
          refine j_aload_n dX12_runFrom_16 rfl ?_
          refine r_cv0J dX12_runFrom_17 cvX12_74 (by decide) (by first | assumption | exact hsh _ _ rfl) (Nat.le_of_ble_eq_true rfl) (Nat.le_of_eq (Nat.zero_add _)) (Nat.le_of_eq (Nat.zero_add _)) (sm_people hsh hfx) (hok.2.1 171 _) (fun b_17 => ?_)
          refine j_icmp_ge (tgt := 71) dX12_runFrom_20 rfl (by first | omega | (split <;> omega)) (by first | omega | (split <;> omega)) (fun c_20 => ?_) (fun c_20 => ?_)
          · exact absurd c_20 (by omega)
          · refine j_iload_n dX12_runFrom_23 rfl ?_
            refine j_aload_n dX12_runFrom_24 rfl ?_
            refine j_iload dX12_runFrom_25 rfl ?_
            refine r_cv1I dX12_runFrom_27 cvX12_296 (by decide) (by first | assumption | exact hsh _ _ rfl) (Nat.le_of_ble_eq_true rfl) (Nat.le_of_eq (Nat.zero_add _)) (Nat.le_of_eq (Nat.zero_add _)) (sm_isAlive hsh hfx (by omega)) ?_
            refine j_if_eq (tgt := 62) dX12_runFrom_30 rfl (by first | omega | (split <;> omega)) (fun c_30 => ?_) (fun c_30 => ?_)
            · refine j_iconst dX12_runFrom_62 ?_
              refine r_ior dX12_runFrom_63 (fun b_63 => ?_)
              refine j_istore_n dX12_runFrom_64 (by decide) ?_
              refine j_iinc dX12_runFrom_65 rfl (by decide) ?_
              refine j_goto (tgt := 14) dX12_runFrom_68 rfl ?_
              rw [ite0] at c_30
              first | (rw [if_pos ⟨by omega, by omega, by omega⟩] at ih2; exact ih2) | (rw [if_neg (fun q => by have := q.1; have := q.2.1; have := q.2.2; omega)] at ih2; exact ih2)
            · refine j_aload_n dX12_runFrom_33 rfl ?_
              refine j_iload dX12_runFrom_34 rfl ?_
              refine j_iconst dX12_runFrom_36 ?_
              refine r_cv2J dX12_runFrom_37 cvX12_68 (by decide) (by first | assumption | exact hsh _ _ rfl) (Nat.le_of_ble_eq_true rfl) (Nat.le_of_eq (Nat.zero_add _)) (Nat.le_of_eq (Nat.zero_add _)) (sm_of hsh hfx (by omega)) (hok.2.1 171 _) (fun b_37 => ?_)
              refine j_if_le (tgt := 62) dX12_runFrom_40 rfl (by first | omega | (split <;> omega)) (fun c_40 => ?_) (fun c_40 => ?_)
              · refine j_iconst dX12_runFrom_62 ?_
                refine r_ior dX12_runFrom_63 (fun b_63 => ?_)
                refine j_istore_n dX12_runFrom_64 (by decide) ?_
                refine j_iinc dX12_runFrom_65 rfl (by decide) ?_
                refine j_goto (tgt := 14) dX12_runFrom_68 rfl ?_
                rw [ite0] at c_30
                first | (rw [if_pos ⟨by omega, by omega, by omega⟩] at ih2; exact ih2) | (rw [if_neg (fun q => by have := q.1; have := q.2.1; have := q.2.2; omega)] at ih2; exact ih2)
              · refine j_aload_n dX12_runFrom_43 rfl ?_
                refine j_iload dX12_runFrom_44 rfl ?_
                refine j_iconst dX12_runFrom_46 ?_
                refine r_cv2J dX12_runFrom_47 cvX12_68 (by decide) (by first | assumption | exact hsh _ _ rfl) (Nat.le_of_ble_eq_true rfl) (Nat.le_of_eq (Nat.zero_add _)) (Nat.le_of_eq (Nat.zero_add _)) (sm_of hsh hfx (by omega)) (hok.2.1 171 _) (fun b_47 => ?_)
                refine j_iload_n dX12_runFrom_50 rfl ?_
                refine r_iand dX12_runFrom_51 (fun b_51 => ?_)
                refine j_if_eq (tgt := 62) dX12_runFrom_52 rfl (by first | omega | (split <;> omega)) (fun c_52 => ?_) (fun c_52 => ?_)
                · refine j_iconst dX12_runFrom_62 ?_
                  refine r_ior dX12_runFrom_63 (fun b_63 => ?_)
                  refine j_istore_n dX12_runFrom_64 (by decide) ?_
                  refine j_iinc dX12_runFrom_65 rfl (by decide) ?_
                  refine j_goto (tgt := 14) dX12_runFrom_68 rfl ?_
                  rw [ite0] at c_30
                  first | (rw [if_pos ⟨by omega, by omega, by omega⟩] at ih2; exact ih2) | (rw [if_neg (fun q => by have := q.1; have := q.2.1; have := q.2.2; omega)] at ih2; exact ih2)
                · refine j_iconst dX12_runFrom_55 ?_
                  refine j_iload dX12_runFrom_56 rfl ?_
                  refine r_ishl dX12_runFrom_58 (fun b_58 => ?_)
                  refine j_goto (tgt := 63) dX12_runFrom_59 rfl ?_
                  refine r_ior dX12_runFrom_63 (fun b_63 => ?_)
                  refine j_istore_n dX12_runFrom_64 (by decide) ?_
                  refine j_iinc dX12_runFrom_65 rfl (by decide) ?_
                  refine j_goto (tgt := 14) dX12_runFrom_68 rfl ?_
                  rw [ite0] at c_30
                  first | (rw [if_pos ⟨by omega, by omega, by omega⟩] at ih2; exact ih2) | (rw [if_neg (fun q => by have := q.1; have := q.2.1; have := q.2.2; omega)] at ih2; exact ih2)
      refine j_iload_n dX12_runFrom_4 rfl ?_
      refine j_iload_n dX12_runFrom_5 rfl ?_
      refine j_icmp_eq (tgt := 74) dX12_runFrom_6 rfl (by first | omega | (split <;> omega)) (by first | omega | (split <;> omega)) (fun c_6 => ?_) (fun c_6 => ?_)
      · subst c_6
        have e9 : b = mRun (I 171) set := by
          rcases hh with q | q
          · omega
          · rw [← hr]; exact (mRun_of q.2.symm).symm
        refine j_iload_n dX12_runFrom_74 rfl ?_
        refine j_iret dX12_runFrom_75 rfl ?_
        exact rI_of e9 rfl
      · refine j_iload_n dX12_runFrom_9 rfl ?_
        refine j_istore_n dX12_runFrom_10 (by decide) ?_
        refine j_iconst dX12_runFrom_11 ?_
        refine j_istore dX12_runFrom_12 (by decide) ?_
        exact inner c_6
  refine j_iload_n dX12_runFrom_0 rfl ?_
  refine j_istore_n dX12_runFrom_1 (by decide) ?_
  refine j_iconst dX12_runFrom_2 ?_
  refine j_istore_n dX12_runFrom_3 (by decide) ?_
  exact loop 1000 set (-1) _ (by split <;> omega) hx (Or.inl rfl) rfl
theorem sc_runFrom {s : Nat} {w : Int → Int} (hs : StAt sh F s) (hR : Rp I s w) {set : Int} (hx : 0 ≤ set ∧ set < 256) (h1 : 1 ≤ mCt w set) : jS G (d + 1) mX3_runFrom [jR (some s), jI set] (sh, I, F) 0 0 (rI (mRun w set) (sh, I, F)) := by
  obtain ⟨g0, g1, g2, g3, g4, g5, g6, g7, g8, g9, e1, e2, e3, e4, e5, e6, e7, e8, e9⟩ := id hs
  obtain ⟨r0, r1, rP, rO, rA, r9, r10, r11, r12, r13, r14, r15, r16, r17⟩ := id hR
  refine jS_go [some (jR (some s)), some (jI set), none, none, none, none] (by decide +kernel) rfl (by simp [jone]) (Nat.le_of_ble_eq_true rfl) rfl (fun hok => ?_)
  have loop : ∀ (n : Nat) (k : Nat) (o o2 : Option jzV), (k : Int) + n = aPe w → jW G mX3_runFrom (d + 1) (rI (mRun w set) (sh, I, F)) 4 [some (jR (some s)), some (jI set), some (jI (mIt w set k)), some (jI k), o, o2] [] (sh, I, F) 0 0 := by
    intro n
    induction n with
    | zero =>
      intro k o o2 hk
      refine j_iload_n dX3_runFrom_4 rfl ?_
      refine j_aload_n dX3_runFrom_5 rfl ?_
      refine r_getIE dX3_runFrom_6 flX3_9 (by first | assumption | exact hsh _ _ rfl) r0 (fun b_6 => ?_)
      refine j_icmp_ge (tgt := 90) dX3_runFrom_9 rfl (by first | omega | (split <;> omega)) (by first | omega | (split <;> omega)) (fun c_9 => ?_) (fun c_9 => ?_)
      · refine j_iload_n dX3_runFrom_90 rfl ?_
        refine j_iret dX3_runFrom_91 rfl ?_
        exact rI_of (by rw [mRun_few r1 hx h1, show (aPe w).toNat = k by omega]) rfl
      · exact absurd (by omega) c_9
    | succ n ih =>
      intro k o o2 hk
      have hb := mIt_in r1 hx k
      have hnb := mNx_set r1 hb
      have inner : jW G mX3_runFrom (d + 1) (rI (mRun w set) (sh, I, F)) 18 [some (jR (some s)), some (jI set), some (jI (mIt w set k)), some (jI k), some (jI (mIt w set k)), some (jI 0)] [] (sh, I, F) 0 0 := by
        refine jW_loop 18 (fun _ a => 0 ≤ a ∧ a < 256) (fun p a => jOr a (if aCan w (mIt w set k) p then jShl 1 p else 0)) (mIt w set k) (aPe w) (fun z a => [some (jR (some s)), some (jI set), some (jI (mIt w set k)), some (jI k), some (jI a), some (jI z)]) (fun _ _ => (sh, I, F)) r1.1 hb (fun z a h0 h1 h2 => (jOr_set h2 (by have := (jShl_set h0 (by omega)).1; split <;> omega)).1) (fun a ha hPa => ?_) (fun z a hz0 hz1 hPa ih2 => ?_)
        · have ha2 : a = mNx w (mIt w set k) := ha
          refine j_iload dX3_runFrom_18 rfl ?_
          refine j_aload_n dX3_runFrom_20 rfl ?_
          refine r_getIE dX3_runFrom_21 flX3_9 (by first | assumption | exact hsh _ _ rfl) r0 (fun b_21 => ?_)
          refine j_icmp_ge (tgt := 73) dX3_runFrom_24 rfl (by first | omega | (split <;> omega)) (by first | omega | (split <;> omega)) (fun c_24 => ?_) (fun c_24 => ?_)
          · refine j_iload dX3_runFrom_73 rfl ?_
            refine j_iload_n dX3_runFrom_75 rfl ?_
            refine j_icmp_ne (tgt := 81) dX3_runFrom_76 rfl (by first | omega | (split <;> omega)) (by first | omega | (split <;> omega)) (fun c_76 => ?_) (fun c_76 => ?_)
            · refine j_iload dX3_runFrom_81 rfl ?_
              refine j_istore_n dX3_runFrom_83 (by decide) ?_
              refine j_iinc dX3_runFrom_84 rfl (by decide) ?_
              refine j_goto (tgt := 4) dX3_runFrom_87 rfl ?_
              subst ha2
              exact ih (k + 1) _ _ (by omega)
            · refine j_iload_n dX3_runFrom_79 rfl ?_
              refine j_iret dX3_runFrom_80 rfl ?_
              exact rI_of (by rw [mRun_at (n := k) (by omega) (by omega)]) rfl
          · exact absurd (by omega) c_24
        · obtain ⟨q0, q1, q2, q3, q4, q5, q6⟩ := rP z hz0 hz1
          have hor0 : jOr a 0 = a := jOr_0 (by omega)
          refine j_iload dX3_runFrom_18 rfl ?_
          refine j_aload_n dX3_runFrom_20 rfl ?_
          refine r_getIE dX3_runFrom_21 flX3_9 (by first | assumption | exact hsh _ _ rfl) r0 (fun b_21 => ?_)
          refine j_icmp_ge (tgt := 73) dX3_runFrom_24 rfl (by first | omega | (split <;> omega)) (by first | omega | (split <;> omega)) (fun c_24 => ?_) (fun c_24 => ?_)
          · exact absurd c_24 (by omega)
          · refine j_aload_n dX3_runFrom_27 rfl ?_
            refine j_iload dX3_runFrom_28 rfl ?_
            refine r_cv1I dX3_runFrom_30 cvX3_15 (by decide) (by first | assumption | exact hsh _ _ rfl) (Nat.le_of_ble_eq_true rfl) (Nat.le_of_eq (Nat.zero_add _)) (Nat.le_of_eq (Nat.zero_add _)) (sc_isAlive hs hR (by omega)) ?_
            refine j_if_eq (tgt := 67) dX3_runFrom_33 rfl (by first | omega | (split <;> omega)) (fun c_33 => ?_) (fun c_33 => ?_)
            · refine j_iinc dX3_runFrom_67 rfl (by decide) ?_
              refine j_goto (tgt := 18) dX3_runFrom_70 rfl ?_
              rw [ite0] at c_33
              first | (rw [if_pos ⟨by omega, by omega, by omega⟩] at ih2; exact ih2) | (rw [if_neg (fun q => by have := q.1; have := q.2.1; have := q.2.2; omega), hor0] at ih2; exact ih2)
            · refine j_aload_n dX3_runFrom_36 rfl ?_
              refine r_getS dX3_runFrom_37 flX3_19 (by first | assumption | exact hsh _ _ rfl) (by assumption) ?_
              refine j_iload dX3_runFrom_40 rfl ?_
              refine r_ialoadE dX3_runFrom_42 (by first | assumption | exact hsh _ _ rfl) (by first | omega | (split <;> omega)) (by first | omega | (split <;> omega)) q1 (fun b_42 => ?_)
              refine j_if_le (tgt := 67) dX3_runFrom_43 rfl (by first | omega | (split <;> omega)) (fun c_43 => ?_) (fun c_43 => ?_)
              · refine j_iinc dX3_runFrom_67 rfl (by decide) ?_
                refine j_goto (tgt := 18) dX3_runFrom_70 rfl ?_
                rw [ite0] at c_33
                first | (rw [if_pos ⟨by omega, by omega, by omega⟩] at ih2; exact ih2) | (rw [if_neg (fun q => by have := q.1; have := q.2.1; have := q.2.2; omega), hor0] at ih2; exact ih2)
              · refine j_aload_n dX3_runFrom_46 rfl ?_
                refine r_getS dX3_runFrom_47 flX3_23 (by first | assumption | exact hsh _ _ rfl) (by assumption) ?_
                refine j_iload dX3_runFrom_50 rfl ?_
                refine r_ialoadE dX3_runFrom_52 (by first | assumption | exact hsh _ _ rfl) (by first | omega | (split <;> omega)) (by first | omega | (split <;> omega)) q5 (fun b_52 => ?_)
                refine j_iload_n dX3_runFrom_53 rfl ?_
                refine r_iand dX3_runFrom_54 (fun b_54 => ?_)
                refine j_if_eq (tgt := 67) dX3_runFrom_55 rfl (by first | omega | (split <;> omega)) (fun c_55 => ?_) (fun c_55 => ?_)
                · refine j_iinc dX3_runFrom_67 rfl (by decide) ?_
                  refine j_goto (tgt := 18) dX3_runFrom_70 rfl ?_
                  rw [ite0] at c_33
                  first | (rw [if_pos ⟨by omega, by omega, by omega⟩] at ih2; exact ih2) | (rw [if_neg (fun q => by have := q.1; have := q.2.1; have := q.2.2; omega), hor0] at ih2; exact ih2)
                · refine j_iload dX3_runFrom_58 rfl ?_
                  refine j_iconst dX3_runFrom_60 ?_
                  refine j_iload dX3_runFrom_61 rfl ?_
                  refine r_ishl dX3_runFrom_63 (fun b_63 => ?_)
                  refine r_ior dX3_runFrom_64 (fun b_64 => ?_)
                  refine j_istore dX3_runFrom_65 (by decide) ?_
                  refine j_iinc dX3_runFrom_67 rfl (by decide) ?_
                  refine j_goto (tgt := 18) dX3_runFrom_70 rfl ?_
                  rw [ite0] at c_33
                  first | (rw [if_pos ⟨by omega, by omega, by omega⟩] at ih2; exact ih2) | (rw [if_neg (fun q => by have := q.1; have := q.2.1; have := q.2.2; omega), hor0] at ih2; exact ih2)
      refine j_iload_n dX3_runFrom_4 rfl ?_
      refine j_aload_n dX3_runFrom_5 rfl ?_
      refine r_getIE dX3_runFrom_6 flX3_9 (by first | assumption | exact hsh _ _ rfl) r0 (fun b_6 => ?_)
      refine j_icmp_ge (tgt := 90) dX3_runFrom_9 rfl (by first | omega | (split <;> omega)) (by first | omega | (split <;> omega)) (fun c_9 => ?_) (fun c_9 => ?_)
      · exact absurd c_9 (by omega)
      · refine j_iload_n dX3_runFrom_12 rfl ?_
        refine j_istore dX3_runFrom_13 (by decide) ?_
        refine j_iconst dX3_runFrom_15 ?_
        refine j_istore dX3_runFrom_16 (by decide) ?_
        exact inner
  refine j_iload_n dX3_runFrom_0 rfl ?_
  refine j_istore_n dX3_runFrom_1 (by decide) ?_
  refine j_iconst dX3_runFrom_2 ?_
  refine j_istore_n dX3_runFrom_3 (by decide) ?_
  exact loop (aPe w).toNat 0 _ _ (by omega)
end
