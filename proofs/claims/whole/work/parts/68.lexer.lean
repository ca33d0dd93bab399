/-! WORDS, NUMBERS AND SIGNS OF A TEXT -/
def lxS (B : Int → Int) (n lo hi : Int) : Nat → Int → Int
  | 0, p => p
  | m + 1, p => if p < n ∧ lo ≤ B p ∧ B p ≤ hi then lxS B n lo hi m (p + 1) else p
/-- as far as the bytes lie between -/
def lx (B : Int → Int) (n lo hi p : Int) : Int := lxS B n lo hi (n - p).toNat p
theorem lx_t {B : Int → Int} {n lo hi p : Int} (h : p < n ∧ lo ≤ B p ∧ B p ≤ hi) : lx B n lo hi p = lx B n lo hi (p + 1) := by
  unfold lx
  rw [show (n - p).toNat = (n - (p + 1)).toNat + 1 by omega]
  show (if _ then _ else _) = _
  rw [if_pos h]
theorem lx_f {B : Int → Int} {n lo hi p : Int} (h : ¬ (p < n ∧ lo ≤ B p ∧ B p ≤ hi)) : lx B n lo hi p = p := by
  unfold lx
  cases (n - p).toNat with
  | zero => rfl
  | succ m =>
    show (if _ then _ else _) = _
    rw [if_neg h]
theorem lx_in {B : Int → Int} {n lo hi : Int} : ∀ (m : Nat) (p : Int), p + m = n → p ≤ lx B n lo hi p ∧ lx B n lo hi p ≤ n := by
  intro m
  induction m with
  | zero => intro p hp; rw [lx_f (by omega)]; omega
  | succ m ih =>
    intro p hp
    by_cases e : p < n ∧ lo ≤ B p ∧ B p ≤ hi
    · rw [lx_t e]; have := ih (p + 1) (by omega); omega
    · rw [lx_f e]; omega
theorem lx_le {B : Int → Int} {n lo hi p : Int} (h : p ≤ n) : p ≤ lx B n lo hi p ∧ lx B n lo hi p ≤ n := lx_in (n - p).toNat p (by omega)
/-- there it ends -/
theorem lx_end {B : Int → Int} {n lo hi : Int} : ∀ (m : Nat) (p : Int), p + m = n → ¬ (lx B n lo hi p < n ∧ lo ≤ B (lx B n lo hi p) ∧ B (lx B n lo hi p) ≤ hi) := by
  intro m
  induction m with
  | zero => intro p hp; rw [lx_f (by omega)]; omega
  | succ m ih =>
    intro p hp
    by_cases e : p < n ∧ lo ≤ B p ∧ B p ≤ hi
    · rw [lx_t e]; exact ih (p + 1) (by omega)
    · rw [lx_f e]; exact e
abbrev lxB (B : Int → Int) (n p : Int) : Int := lx B n 32 32 p
abbrev isL (v : Int) : Prop := 97 ≤ v ∧ v ≤ 122
abbrev isD (v : Int) : Prop := 48 ≤ v ∧ v ≤ 57
def tkK (B : Int → Int) (n q : Int) : Int := if q < n then (if isL (B q) then 1 else if isD (B q) then 2 else 3) else 0
def tkE (B : Int → Int) (n q : Int) : Int := if q < n then (if isL (B q) then lx B n 97 122 q else if isD (B q) then lx B n 48 57 q else q + 1) else q
/-- the number that the first k figures are -/
def tkV (B : Int → Int) (q : Int) (k : Nat) : Int := jfold (fun i a => a * 10 + B (q + i) - 48) 0 k
theorem tkV_s {B : Int → Int} {q i : Int} (h : 0 ≤ i) : tkV B q (i + 1).toNat = tkV B q i.toNat * 10 + B (q + i) - 48 := jfold_s _ _ h
theorem tkE_in {B : Int → Int} {n q : Int} (h : q ≤ n) : q ≤ tkE B n q ∧ tkE B n q ≤ n ∧ (q < n → q < tkE B n q) := by
  unfold tkE
  by_cases e : q < n
  · rw [if_pos e]
    by_cases e1 : isL (B q)
    · rw [if_pos e1, lx_t ⟨e, e1⟩]
      have := lx_le (B := B) (n := n) (lo := 97) (hi := 122) (p := q + 1) (by omega)
      omega
    · rw [if_neg e1]
      by_cases e2 : isD (B q)
      · rw [if_pos e2, lx_t ⟨e, e2⟩]
        have := lx_le (B := B) (n := n) (lo := 48) (hi := 57) (p := q + 1) (by omega)
        omega
      · rw [if_neg e2]; omega
  · rw [if_neg e]; omega
/-- figures are figures -/
theorem lx_all {B : Int → Int} {n lo hi : Int} : ∀ (m : Nat) (p k : Int), p + m = n → p ≤ k → k < lx B n lo hi p → lo ≤ B k ∧ B k ≤ hi := by
  intro m
  induction m with
  | zero => intro p k hp h0 h1; rw [lx_f (by omega)] at h1; omega
  | succ m ih =>
    intro p k hp h0 h1
    by_cases e : p < n ∧ lo ≤ B p ∧ B p ≤ hi
    · rw [lx_t e] at h1
      by_cases c : k = p
      · subst c; exact e.2
      · exact ih (p + 1) k (by omega) (by omega) h1
    · rw [lx_f e] at h1; omega
theorem tkV_in {B : Int → Int} {q : Int} : ∀ k : Nat, k ≤ 7 → (∀ i : Int, 0 ≤ i → i < k → 48 ≤ B (q + i) ∧ B (q + i) ≤ 57) → 0 ≤ tkV B q k ∧ tkV B q k ≤ 9999999 ∧ tkV B q k < 10 ^ k := by
  intro k
  induction k with
  | zero => intro _ _; show (0 : Int) ≤ 0 ∧ (0 : Int) ≤ 9999999 ∧ (0 : Int) < 10 ^ 0; decide
  | succ k ih =>
    intro hk h
    obtain ⟨i1, i2, i3⟩ := ih (by omega) (fun i i0 i1 => h i i0 (by omega))
    have hb := h k (by omega) (by omega)
    have hd : tkV B q (k + 1) = tkV B q k * 10 + B (q + k) - 48 := rfl
    have hp : (10 : Int) ^ (k + 1) = 10 ^ k * 10 := Int.pow_succ 10 k
    rw [hd, hp]
    have : (10 : Int) ^ k ≤ 1000000 := by
      rcases (show k = 0 ∨ k = 1 ∨ k = 2 ∨ k = 3 ∨ k = 4 ∨ k = 5 ∨ k = 6 by omega) with rfl | rfl | rfl | rfl | rfl | rfl | rfl <;> decide
    omega
/-- the token that the class looks at begins at q -/
def Tx (I : Nat → Int → Int) (B : Int → Int) (n q : Int) : Prop := I 154 1 = n ∧ I 154 2 = tkE B n q ∧ I 154 3 = tkK B n q ∧ I 154 4 = q ∧ I 154 5 = tkE B n q - q ∧ (tkK B n q = 2 → I 154 6 = tkV B q (min 7 (tkE B n q - q)).toNat) ∧ (∀ k, 0 ≤ k → k < n → I 155 k = B k) ∧ (0 ≤ q ∧ q ≤ n) ∧ n ≤ 400
/-- the next token -/
abbrev tkN (B : Int → Int) (n q : Int) : Int := lxB B n (tkE B n q)
theorem Tx_fr {I J : Nat → Int → Int} {B : Int → Int} {n q : Int} (h : Tx I B n q) (h1 : J 154 = I 154) (h2 : J 155 = I 155) : Tx J B n q := by
  unfold Tx
  rw [h1, h2]
  exact h
abbrev vSg (B : Int → Int) (n q c : Int) : Prop := tkK B n q = 3 ∧ B q = c
/-- word t begins at q -/
abbrev vCh (B : Int → Int) (q : Int) (t : Nat) : Prop := ∀ i : Nat, i < (jzBy.getD t []).length → B (q + (i : Int)) = (((jzBy.getD t []).getD i 0 : Nat) : Int)
abbrev vWd (B : Int → Int) (n q : Int) (t : Nat) : Prop := tkK B n q = 1 ∧ tkE B n q - q = txL t ∧ vCh B q t
abbrev vNm (B : Int → Int) (n q f lo hi : Int) : Prop := tkK B n q = 2 ∧ tkE B n q - q ≤ f ∧ lo ≤ tkV B q (tkE B n q - q).toNat ∧ tkV B q (tkE B n q - q).toNat ≤ hi
section
variable {G : jzG} {d : Nat} {sh : List (Nat × Nat)} {I : Nat → Int → Int} {F : Nat → Int → Option Nat} {B : Int → Int} {n q : Int}
theorem st_isLetter {c : Int} (hc : jin c) : jS G d mX10_isLetter [jI c] (sh, I, F) 0 0 (rI (if isL c then 1 else 0) (sh, I, F)) := by
  refine jS_go [some (jI c)] (by decide +kernel) rfl (by simp [jone]) (Nat.le_of_ble_eq_true rfl) rfl (fun hok => ?_)
  refine j_iload_n dX10_isLetter_0 rfl ?_
  refine j_bipush dX10_isLetter_1 (by decide) ?_
  refine j_icmp_lt (tgt := 16) dX10_isLetter_3 rfl (by first | omega | (split <;> omega)) (by first | omega | (split <;> omega)) (fun c_3 => ?_) (fun c_3 => ?_)
  · refine j_iconst dX10_isLetter_16 ?_
    refine j_zret dX10_isLetter_17 rfl (by omega) ?_
    exact rI_of (by first | rw [if_pos (by omega)] | rw [if_neg (by omega)]) rfl
  · refine j_iload_n dX10_isLetter_6 rfl ?_
    refine j_bipush dX10_isLetter_7 (by decide) ?_
    refine j_icmp_gt (tgt := 16) dX10_isLetter_9 rfl (by first | omega | (split <;> omega)) (by first | omega | (split <;> omega)) (fun c_9 => ?_) (fun c_9 => ?_)
    · refine j_iconst dX10_isLetter_16 ?_
      refine j_zret dX10_isLetter_17 rfl (by omega) ?_
      exact rI_of (by first | rw [if_pos (by omega)] | rw [if_neg (by omega)]) rfl
    · refine j_iconst dX10_isLetter_12 ?_
      refine j_goto (tgt := 17) dX10_isLetter_13 rfl ?_
      refine j_zret dX10_isLetter_17 rfl (by omega) ?_
      exact rI_of (by first | rw [if_pos (by omega)] | rw [if_neg (by omega)]) rfl
theorem st_isFigure {c : Int} (hc : jin c) : jS G d mX10_isFigure [jI c] (sh, I, F) 0 0 (rI (if isD c then 1 else 0) (sh, I, F)) := by
  refine jS_go [some (jI c)] (by decide +kernel) rfl (by simp [jone]) (Nat.le_of_ble_eq_true rfl) rfl (fun hok => ?_)
  refine j_iload_n dX10_isFigure_0 rfl ?_
  refine j_bipush dX10_isFigure_1 (by decide) ?_
  refine j_icmp_lt (tgt := 16) dX10_isFigure_3 rfl (by first | omega | (split <;> omega)) (by first | omega | (split <;> omega)) (fun c_3 => ?_) (fun c_3 => ?_)
  · refine j_iconst dX10_isFigure_16 ?_
    refine j_zret dX10_isFigure_17 rfl (by omega) ?_
    exact rI_of (by first | rw [if_pos (by omega)] | rw [if_neg (by omega)]) rfl
  · refine j_iload_n dX10_isFigure_6 rfl ?_
    refine j_bipush dX10_isFigure_7 (by decide) ?_
    refine j_icmp_gt (tgt := 16) dX10_isFigure_9 rfl (by first | omega | (split <;> omega)) (by first | omega | (split <;> omega)) (fun c_9 => ?_) (fun c_9 => ?_)
    · refine j_iconst dX10_isFigure_16 ?_
      refine j_zret dX10_isFigure_17 rfl (by omega) ?_
      exact rI_of (by first | rw [if_pos (by omega)] | rw [if_neg (by omega)]) rfl
    · refine j_iconst dX10_isFigure_12 ?_
      refine j_goto (tgt := 17) dX10_isFigure_13 rfl ?_
      refine j_zret dX10_isFigure_17 rfl (by omega) ?_
      exact rI_of (by first | rw [if_pos (by omega)] | rw [if_neg (by omega)]) rfl
theorem st_step (hsh : ShOK sh) (hfx : FxOK F) {p : Int} (h1 : I 154 1 = n) (h2 : I 154 2 = p) (hp : 0 ≤ p ∧ p ≤ n) (hn : n ≤ 400) (hB : ∀ k, 0 ≤ k → k < n → I 155 k = B k) : jS G (d + 1) mX10_step [jR (some 154)] (sh, I, F) 0 0 (rEV sh F (fun J => Tx J B n (lxB B n p) ∧ Fr1 154 I J)) := by
  refine jS_go [some (jR (some 154))] (by decide +kernel) rfl (by simp [jone]) (Nat.le_of_ble_eq_true rfl) rfl (fun hok => ?_)
  generalize hQ : rEV sh F (fun J => Tx J B n (lxB B n p) ∧ Fr1 154 I J) = Q9
  have hBj : ∀ k, 0 ≤ k → k < n → jin (B k) := fun k k0 k1 => by rw [← hB k k0 k1]; exact hok.2.1 _ _
  obtain ⟨q, hq⟩ : ∃ q, lxB B n p = q := ⟨_, rfl⟩
  rw [hq] at hQ
  have hqi := lx_le (B := B) (n := n) (lo := 32) (hi := 32) (p := p) hp.2
  rw [show lx B n 32 32 p = q from hq] at hqi
  have hin := tkE_in (B := B) (n := n) (q := q) hqi.2
  -- the last rows
  have fin : ∀ J : Nat → Int → Int, J 154 1 = n → J 154 2 = tkE B n q → J 154 3 = tkK B n q → J 154 4 = q → (tkK B n q = 2 → J 154 6 = tkV B q (min 7 (tkE B n q - q)).toNat) → Fr1 154 I J → jW G mX10_step (d + 1) Q9 246 [some (jR (some 154))] [] (sh, J, F) 0 0 := by
    intro J j1 j2 j3 j4 j6 jf
    refine j_aload_n dX10_step_246 rfl ?_
    refine j_aload_n dX10_step_247 rfl ?_
    refine r_getIE dX10_step_248 flX10_34 (by first | assumption | exact hsh _ _ rfl) j2 (fun b_248 => ?_)
    refine j_aload_n dX10_step_251 rfl ?_
    refine r_getIE dX10_step_252 flX10_40 (by first | assumption | exact hsh _ _ rfl) j4 (fun b_252 => ?_)
    refine j_isub dX10_step_255 ?_
    refine r_putI dX10_step_256 flX10_43 rfl (by first | assumption | exact hsh _ _ rfl) (by first | omega | (split <;> omega)) (fun q => by cases q) ?_
    refine j_vret dX10_step_259 rfl ?_
    rw [← hQ]
    refine rEV_of ⟨⟨?_, ?_, ?_, ?_, jup_same _ _ _ _, fun h => ?_, fun k k0 k1 => ?_, ⟨by omega, hqi.2⟩, hn⟩, Fr1_up jf⟩
    · rw [jup_row _ _ _ (by decide)]; exact j1
    · rw [jup_row _ _ _ (by decide)]; exact j2
    · rw [jup_row _ _ _ (by decide)]; exact j3
    · rw [jup_row _ _ _ (by decide)]; exact j4
    · rw [jup_row _ _ _ (by decide)]; exact j6 h
    · rw [jup_ne _ _ _ (by decide), jf 155 (by decide)]; exact hB k k0 k1
  -- letters
  have let_ : ∀ (m : Nat) (r : Int) (J : Nat → Int → Int), r + m = n → q ≤ r → q < n → isL (B q) → lx B n 97 122 q = lx B n 97 122 r → J 154 1 = n → J 154 2 = r → J 154 3 = 1 → J 154 4 = q → Fr1 154 I J → jW G mX10_step (d + 1) Q9 95 [some (jR (some 154))] [] (sh, J, F) 0 0 := by
    intro m
    induction m with
    | zero =>
      intro r J hr hqr hqn hL hlx j1 j2 j3 j4 jf
      have eE : tkE B n q = r := by unfold tkE; rw [if_pos hqn, if_pos hL, hlx, lx_f (by omega)]
      have eK : tkK B n q = 1 := by unfold tkK; rw [if_pos hqn, if_pos hL]
      refine j_aload_n dX10_step_95 rfl ?_
      refine r_getIE dX10_step_96 flX10_34 (by first | assumption | exact hsh _ _ rfl) j2 (fun b_96 => ?_)
      refine j_aload_n dX10_step_99 rfl ?_
      refine r_getIE dX10_step_100 flX10_24 (by first | assumption | exact hsh _ _ rfl) j1 (fun b_100 => ?_)
      refine j_icmp_ge (tgt := 246) dX10_step_103 rfl (by first | omega | (split <;> omega)) (by first | omega | (split <;> omega)) (fun c_103 => ?_) (fun c_103 => by exact absurd (by omega) c_103)
      exact fin J j1 (by rw [eE]; exact j2) (by rw [eK]; exact j3) j4 (fun h => by omega) jf
    | succ m ih =>
      intro r J hr hqr hqn hL hlx j1 j2 j3 j4 jf
      have eK : tkK B n q = 1 := by unfold tkK; rw [if_pos hqn, if_pos hL]
      have qb : J 155 r = B r := by rw [jf 155 (by decide)]; exact hB r (by omega) (by omega)
      have jb := hBj r (by omega) (by omega)
      by_cases e : isL (B r)
      · have sl := st_isLetter (G := G) (d := d) (sh := sh) (I := J) (F := F) (c := B r) jb
        rw [if_pos e] at sl
        refine j_aload_n dX10_step_95 rfl ?_
        refine r_getIE dX10_step_96 flX10_34 (by first | assumption | exact hsh _ _ rfl) j2 (fun b_96 => ?_)
        refine j_aload_n dX10_step_99 rfl ?_
        refine r_getIE dX10_step_100 flX10_24 (by first | assumption | exact hsh _ _ rfl) j1 (fun b_100 => ?_)
        refine j_icmp_ge (tgt := 246) dX10_step_103 rfl (by first | omega | (split <;> omega)) (by first | omega | (split <;> omega)) (fun c_103 => by exact absurd c_103 (by omega)) (fun c_103 => ?_)
        refine j_aload_n dX10_step_106 rfl ?_
        refine r_getS dX10_step_107 flX10_9 (by first | assumption | exact hsh _ _ rfl) (fx_154_0 hfx) ?_
        refine j_aload_n dX10_step_110 rfl ?_
        refine r_getIE dX10_step_111 flX10_34 (by first | assumption | exact hsh _ _ rfl) j2 (fun b_111 => ?_)
        refine r_ialoadE dX10_step_114 (by first | assumption | exact hsh _ _ rfl) (by first | omega | (split <;> omega)) (by first | omega | (split <;> omega)) qb (fun b_114 => ?_)
        refine r_cs1I dX10_step_115 csX10_52 (Nat.le_of_ble_eq_true rfl) (Nat.le_of_eq (Nat.zero_add _)) (Nat.le_of_eq (Nat.zero_add _)) (sl) ?_
        refine j_if_eq (tgt := 246) dX10_step_118 rfl (by first | omega | (split <;> omega)) (fun c_118 => by exact absurd c_118 (by decide)) (fun c_118 => ?_)
        refine j_aload_n dX10_step_121 rfl ?_
        refine j_dup dX10_step_122 trivial ?_
        refine r_getIE dX10_step_123 flX10_34 (by first | assumption | exact hsh _ _ rfl) j2 (fun b_123 => ?_)
        refine j_iconst dX10_step_126 ?_
        refine j_iadd dX10_step_127 ?_
        refine r_putI dX10_step_128 flX10_34 rfl (by first | assumption | exact hsh _ _ rfl) (by first | omega | (split <;> omega)) (fun q => by cases q) ?_
        refine j_goto (tgt := 95) dX10_step_131 rfl ?_
        exact ih (r + 1) _ (by omega) (by omega) hqn hL (by rw [hlx, lx_t ⟨by omega, e⟩]) (by rw [jup_row _ _ _ (by decide)]; exact j1) (jup_same _ _ _ _) (by rw [jup_row _ _ _ (by decide)]; exact j3) (by rw [jup_row _ _ _ (by decide)]; exact j4) (Fr1_up jf)
      · have sl := st_isLetter (G := G) (d := d) (sh := sh) (I := J) (F := F) (c := B r) jb
        rw [if_neg e] at sl
        have eE : tkE B n q = r := by unfold tkE; rw [if_pos hqn, if_pos hL, hlx, lx_f (fun x => e x.2)]
        refine j_aload_n dX10_step_95 rfl ?_
        refine r_getIE dX10_step_96 flX10_34 (by first | assumption | exact hsh _ _ rfl) j2 (fun b_96 => ?_)
        refine j_aload_n dX10_step_99 rfl ?_
        refine r_getIE dX10_step_100 flX10_24 (by first | assumption | exact hsh _ _ rfl) j1 (fun b_100 => ?_)
        refine j_icmp_ge (tgt := 246) dX10_step_103 rfl (by first | omega | (split <;> omega)) (by first | omega | (split <;> omega)) (fun c_103 => by exact absurd c_103 (by omega)) (fun c_103 => ?_)
        refine j_aload_n dX10_step_106 rfl ?_
        refine r_getS dX10_step_107 flX10_9 (by first | assumption | exact hsh _ _ rfl) (fx_154_0 hfx) ?_
        refine j_aload_n dX10_step_110 rfl ?_
        refine r_getIE dX10_step_111 flX10_34 (by first | assumption | exact hsh _ _ rfl) j2 (fun b_111 => ?_)
        refine r_ialoadE dX10_step_114 (by first | assumption | exact hsh _ _ rfl) (by first | omega | (split <;> omega)) (by first | omega | (split <;> omega)) qb (fun b_114 => ?_)
        refine r_cs1I dX10_step_115 csX10_52 (Nat.le_of_ble_eq_true rfl) (Nat.le_of_eq (Nat.zero_add _)) (Nat.le_of_eq (Nat.zero_add _)) (sl) ?_
        refine j_if_eq (tgt := 246) dX10_step_118 rfl (by first | omega | (split <;> omega)) (fun c_118 => ?_) (fun c_118 => by exact absurd c_118 (by decide))
        exact fin J j1 (by rw [eE]; exact j2) (by rw [eK]; exact j3) j4 (fun h => by omega) jf
  -- figures
  have fig_ : ∀ (m : Nat) (r : Int) (J : Nat → Int → Int), r + m = n → q ≤ r → q < n → ¬ isL (B q) → isD (B q) → lx B n 48 57 q = lx B n 48 57 r → (∀ k, q ≤ k → k < r → isD (B k)) → J 154 1 = n → J 154 2 = r → J 154 3 = 2 → J 154 4 = q → J 154 6 = tkV B q (min 7 (r - q)).toNat → Fr1 154 I J → jW G mX10_step (d + 1) Q9 154 [some (jR (some 154))] [] (sh, J, F) 0 0 := by
    intro m
    induction m with
    | zero =>
      intro r J hr hqr hqn hL hD hlx hal j1 j2 j3 j4 j6 jf
      have eE : tkE B n q = r := by unfold tkE; rw [if_pos hqn, if_neg hL, if_pos hD, hlx, lx_f (by omega)]
      have eK : tkK B n q = 2 := by unfold tkK; rw [if_pos hqn, if_neg hL, if_pos hD]
      refine j_aload_n dX10_step_154 rfl ?_
      refine r_getIE dX10_step_155 flX10_34 (by first | assumption | exact hsh _ _ rfl) j2 (fun b_155 => ?_)
      refine j_aload_n dX10_step_158 rfl ?_
      refine r_getIE dX10_step_159 flX10_24 (by first | assumption | exact hsh _ _ rfl) j1 (fun b_159 => ?_)
      refine j_icmp_ge (tgt := 246) dX10_step_162 rfl (by first | omega | (split <;> omega)) (by first | omega | (split <;> omega)) (fun c_162 => ?_) (fun c_162 => by exact absurd (by omega) c_162)
      exact fin J j1 (by rw [eE]; exact j2) (by rw [eK]; exact j3) j4 (fun _ => by rw [eE]; exact j6) jf
    | succ m ih =>
      intro r J hr hqr hqn hL hD hlx hal j1 j2 j3 j4 j6 jf
      have eK : tkK B n q = 2 := by unfold tkK; rw [if_pos hqn, if_neg hL, if_pos hD]
      have qb : J 155 r = B r := by rw [jf 155 (by decide)]; exact hB r (by omega) (by omega)
      have jb := hBj r (by omega) (by omega)
      have sl := st_isFigure (G := G) (d := d) (sh := sh) (I := J) (F := F) (c := B r) jb
      by_cases e : isD (B r)
      · rw [if_pos e] at sl
        have hv := tkV_in (B := B) (q := q) (min 7 (r - q)).toNat (by omega) (fun i i0 i1 => hal (q + i) (by omega) (by omega))
        by_cases c : r - q < 7
        · have hs := tkV_s (B := B) (q := q) (i := r - q) (by omega)
          rw [show q + (r - q) = r by omega] at hs
          have e1 : (min 7 (r - q)).toNat = (r - q).toNat := by omega
          have e2 : (min 7 (r + 1 - q)).toNat = (r - q + 1).toNat := by omega
          rw [e1] at hv j6
          obtain ⟨K, hK⟩ : ∃ K, K = jup J 154 6 (tkV B q (r - q).toNat * 10 + B r - 48) := ⟨_, rfl⟩
          have k2 : K 154 2 = r := by rw [hK, jup_row _ _ _ (by decide)]; exact j2
          refine j_aload_n dX10_step_154 rfl ?_
          refine r_getIE dX10_step_155 flX10_34 (by first | assumption | exact hsh _ _ rfl) j2 (fun b_155 => ?_)
          refine j_aload_n dX10_step_158 rfl ?_
          refine r_getIE dX10_step_159 flX10_24 (by first | assumption | exact hsh _ _ rfl) j1 (fun b_159 => ?_)
          refine j_icmp_ge (tgt := 246) dX10_step_162 rfl (by first | omega | (split <;> omega)) (by first | omega | (split <;> omega)) (fun c_162 => by exact absurd c_162 (by omega)) (fun c_162 => ?_)
          refine j_aload_n dX10_step_165 rfl ?_
          refine r_getS dX10_step_166 flX10_9 (by first | assumption | exact hsh _ _ rfl) (fx_154_0 hfx) ?_
          refine j_aload_n dX10_step_169 rfl ?_
          refine r_getIE dX10_step_170 flX10_34 (by first | assumption | exact hsh _ _ rfl) j2 (fun b_170 => ?_)
          refine r_ialoadE dX10_step_173 (by first | assumption | exact hsh _ _ rfl) (by first | omega | (split <;> omega)) (by first | omega | (split <;> omega)) qb (fun b_173 => ?_)
          refine r_cs1I dX10_step_174 csX10_56 (Nat.le_of_ble_eq_true rfl) (Nat.le_of_eq (Nat.zero_add _)) (Nat.le_of_eq (Nat.zero_add _)) (sl) ?_
          refine j_if_eq (tgt := 246) dX10_step_177 rfl (by first | omega | (split <;> omega)) (fun c_177 => by exact absurd c_177 (by decide)) (fun c_177 => ?_)
          refine j_aload_n dX10_step_180 rfl ?_
          refine r_getIE dX10_step_181 flX10_34 (by first | assumption | exact hsh _ _ rfl) j2 (fun b_181 => ?_)
          refine j_aload_n dX10_step_184 rfl ?_
          refine r_getIE dX10_step_185 flX10_40 (by first | assumption | exact hsh _ _ rfl) j4 (fun b_185 => ?_)
          refine j_isub dX10_step_188 ?_
          refine j_bipush dX10_step_189 (by decide) ?_
          refine j_icmp_ge (tgt := 218) dX10_step_191 rfl (by first | omega | (split <;> omega)) (by first | omega | (split <;> omega)) (fun c_191 => by exact absurd c_191 (by omega)) (fun c_191 => ?_)
          refine j_aload_n dX10_step_194 rfl ?_
          refine j_aload_n dX10_step_195 rfl ?_
          refine r_getIE dX10_step_196 flX10_46 (by first | assumption | exact hsh _ _ rfl) j6 (fun b_196 => ?_)
          refine j_bipush dX10_step_199 (by decide) ?_
          refine j_imul dX10_step_201 ?_
          refine j_aload_n dX10_step_202 rfl ?_
          refine r_getS dX10_step_203 flX10_9 (by first | assumption | exact hsh _ _ rfl) (fx_154_0 hfx) ?_
          refine j_aload_n dX10_step_206 rfl ?_
          refine r_getIE dX10_step_207 flX10_34 (by first | assumption | exact hsh _ _ rfl) j2 (fun b_207 => ?_)
          refine r_ialoadE dX10_step_210 (by first | assumption | exact hsh _ _ rfl) (by first | omega | (split <;> omega)) (by first | omega | (split <;> omega)) qb (fun b_210 => ?_)
          refine j_iadd dX10_step_211 ?_
          refine j_bipush dX10_step_212 (by decide) ?_
          refine j_isub dX10_step_214 ?_
          refine r_putI dX10_step_215 flX10_46 rfl (by first | assumption | exact hsh _ _ rfl) (by first | omega | (split <;> omega)) (fun q => by cases q) ?_
          rw [← hK]
          refine j_aload_n dX10_step_218 rfl ?_
          refine j_dup dX10_step_219 trivial ?_
          refine r_getIE dX10_step_220 flX10_34 (by first | assumption | exact hsh _ _ rfl) k2 (fun b_220 => ?_)
          refine j_iconst dX10_step_223 ?_
          refine j_iadd dX10_step_224 ?_
          refine r_putI dX10_step_225 flX10_34 rfl (by first | assumption | exact hsh _ _ rfl) (by first | omega | (split <;> omega)) (fun q => by cases q) ?_
          refine j_goto (tgt := 154) dX10_step_228 rfl ?_
          refine ih (r + 1) _ (by omega) (by omega) hqn hL hD (by rw [hlx, lx_t ⟨by omega, e⟩]) (fun k k0 k1 => ?_) ?_ (jup_same _ _ _ _) ?_ ?_ ?_ ?_
          · by_cases ck : k = r
            · subst ck; exact e
            · exact hal k k0 (by omega)
          · rw [jup_row _ _ _ (by decide), hK, jup_row _ _ _ (by decide)]; exact j1
          · rw [jup_row _ _ _ (by decide), hK, jup_row _ _ _ (by decide)]; exact j3
          · rw [jup_row _ _ _ (by decide), hK, jup_row _ _ _ (by decide)]; exact j4
          · rw [jup_row _ _ _ (by decide), hK, jup_same, e2, hs]
          · rw [hK]; exact Fr1_up (Fr1_up jf)
        · have e2 : (min 7 (r + 1 - q)).toNat = (min 7 (r - q)).toNat := by omega
          refine j_aload_n dX10_step_154 rfl ?_
          refine r_getIE dX10_step_155 flX10_34 (by first | assumption | exact hsh _ _ rfl) j2 (fun b_155 => ?_)
          refine j_aload_n dX10_step_158 rfl ?_
          refine r_getIE dX10_step_159 flX10_24 (by first | assumption | exact hsh _ _ rfl) j1 (fun b_159 => ?_)
          refine j_icmp_ge (tgt := 246) dX10_step_162 rfl (by first | omega | (split <;> omega)) (by first | omega | (split <;> omega)) (fun c_162 => by exact absurd c_162 (by omega)) (fun c_162 => ?_)
          refine j_aload_n dX10_step_165 rfl ?_
          refine r_getS dX10_step_166 flX10_9 (by first | assumption | exact hsh _ _ rfl) (fx_154_0 hfx) ?_
          refine j_aload_n dX10_step_169 rfl ?_
          refine r_getIE dX10_step_170 flX10_34 (by first | assumption | exact hsh _ _ rfl) j2 (fun b_170 => ?_)
          refine r_ialoadE dX10_step_173 (by first | assumption | exact hsh _ _ rfl) (by first | omega | (split <;> omega)) (by first | omega | (split <;> omega)) qb (fun b_173 => ?_)
          refine r_cs1I dX10_step_174 csX10_56 (Nat.le_of_ble_eq_true rfl) (Nat.le_of_eq (Nat.zero_add _)) (Nat.le_of_eq (Nat.zero_add _)) (sl) ?_
          refine j_if_eq (tgt := 246) dX10_step_177 rfl (by first | omega | (split <;> omega)) (fun c_177 => by exact absurd c_177 (by decide)) (fun c_177 => ?_)
          refine j_aload_n dX10_step_180 rfl ?_
          refine r_getIE dX10_step_181 flX10_34 (by first | assumption | exact hsh _ _ rfl) j2 (fun b_181 => ?_)
          refine j_aload_n dX10_step_184 rfl ?_
          refine r_getIE dX10_step_185 flX10_40 (by first | assumption | exact hsh _ _ rfl) j4 (fun b_185 => ?_)
          refine j_isub dX10_step_188 ?_
          refine j_bipush dX10_step_189 (by decide) ?_
          refine j_icmp_ge (tgt := 218) dX10_step_191 rfl (by first | omega | (split <;> omega)) (by first | omega | (split <;> omega)) (fun c_191 => ?_) (fun c_191 => by exact absurd (by omega) c_191)
          refine j_aload_n dX10_step_218 rfl ?_
          refine j_dup dX10_step_219 trivial ?_
          refine r_getIE dX10_step_220 flX10_34 (by first | assumption | exact hsh _ _ rfl) j2 (fun b_220 => ?_)
          refine j_iconst dX10_step_223 ?_
          refine j_iadd dX10_step_224 ?_
          refine r_putI dX10_step_225 flX10_34 rfl (by first | assumption | exact hsh _ _ rfl) (by first | omega | (split <;> omega)) (fun q => by cases q) ?_
          refine j_goto (tgt := 154) dX10_step_228 rfl ?_
          refine ih (r + 1) _ (by omega) (by omega) hqn hL hD (by rw [hlx, lx_t ⟨by omega, e⟩]) (fun k k0 k1 => ?_) ?_ (jup_same _ _ _ _) ?_ ?_ ?_ (Fr1_up jf)
          · by_cases ck : k = r
            · subst ck; exact e
            · exact hal k k0 (by omega)
          · rw [jup_row _ _ _ (by decide)]; exact j1
          · rw [jup_row _ _ _ (by decide)]; exact j3
          · rw [jup_row _ _ _ (by decide)]; exact j4
          · rw [jup_row _ _ _ (by decide), e2]; exact j6
      · rw [if_neg e] at sl
        have eE : tkE B n q = r := by unfold tkE; rw [if_pos hqn, if_neg hL, if_pos hD, hlx, lx_f (fun x => e x.2)]
        refine j_aload_n dX10_step_154 rfl ?_
        refine r_getIE dX10_step_155 flX10_34 (by first | assumption | exact hsh _ _ rfl) j2 (fun b_155 => ?_)
        refine j_aload_n dX10_step_158 rfl ?_
        refine r_getIE dX10_step_159 flX10_24 (by first | assumption | exact hsh _ _ rfl) j1 (fun b_159 => ?_)
        refine j_icmp_ge (tgt := 246) dX10_step_162 rfl (by first | omega | (split <;> omega)) (by first | omega | (split <;> omega)) (fun c_162 => by exact absurd c_162 (by omega)) (fun c_162 => ?_)
        refine j_aload_n dX10_step_165 rfl ?_
        refine r_getS dX10_step_166 flX10_9 (by first | assumption | exact hsh _ _ rfl) (fx_154_0 hfx) ?_
        refine j_aload_n dX10_step_169 rfl ?_
        refine r_getIE dX10_step_170 flX10_34 (by first | assumption | exact hsh _ _ rfl) j2 (fun b_170 => ?_)
        refine r_ialoadE dX10_step_173 (by first | assumption | exact hsh _ _ rfl) (by first | omega | (split <;> omega)) (by first | omega | (split <;> omega)) qb (fun b_173 => ?_)
        refine r_cs1I dX10_step_174 csX10_56 (Nat.le_of_ble_eq_true rfl) (Nat.le_of_eq (Nat.zero_add _)) (Nat.le_of_eq (Nat.zero_add _)) (sl) ?_
        refine j_if_eq (tgt := 246) dX10_step_177 rfl (by first | omega | (split <;> omega)) (fun c_177 => ?_) (fun c_177 => by exact absurd c_177 (by decide))
        exact fin J j1 (by rw [eE]; exact j2) (by rw [eK]; exact j3) j4 (fun _ => by rw [eE]; exact j6) jf
  -- behind the blanks
  have beg : ∀ J : Nat → Int → Int, J 154 1 = n → J 154 2 = q → Fr1 154 I J → jW G mX10_step (d + 1) Q9 38 [some (jR (some 154))] [] (sh, J, F) 0 0 := by
    intro J j1 j2 jf
    obtain ⟨K, hK⟩ : ∃ K, K = jup (jup (jup J 154 4 q) 154 5 0) 154 6 0 := ⟨_, rfl⟩
    have k1 : K 154 1 = n := by rw [hK, jup_row _ _ _ (by decide), jup_row _ _ _ (by decide), jup_row _ _ _ (by decide)]; exact j1
    have k2 : K 154 2 = q := by rw [hK, jup_row _ _ _ (by decide), jup_row _ _ _ (by decide), jup_row _ _ _ (by decide)]; exact j2
    have k4 : K 154 4 = q := by rw [hK, jup_row _ _ _ (by decide), jup_row _ _ _ (by decide), jup_same]
    have k6 : K 154 6 = 0 := by rw [hK, jup_same]
    have kf : Fr1 154 I K := by rw [hK]; exact Fr1_up (Fr1_up (Fr1_up jf))
    by_cases e : q < n
    · have qb : K 155 q = B q := by rw [kf 155 (by decide)]; exact hB q (by omega) e
      have jb := hBj q (by omega) e
      have sl := st_isLetter (G := G) (d := d) (sh := sh) (I := K) (F := F) (c := B q) jb
      by_cases eL : isL (B q)
      · rw [if_pos eL] at sl
        refine j_aload_n dX10_step_38 rfl ?_
        refine j_aload_n dX10_step_39 rfl ?_
        refine r_getIE dX10_step_40 flX10_34 (by first | assumption | exact hsh _ _ rfl) j2 (fun b_40 => ?_)
        refine r_putI dX10_step_43 flX10_40 rfl (by first | assumption | exact hsh _ _ rfl) (by first | omega | (split <;> omega)) (fun q => by cases q) ?_
        refine j_aload_n dX10_step_46 rfl ?_
        refine j_iconst dX10_step_47 ?_
        refine r_putI dX10_step_48 flX10_43 rfl (by first | assumption | exact hsh _ _ rfl) (by first | omega | (split <;> omega)) (fun q => by cases q) ?_
        refine j_aload_n dX10_step_51 rfl ?_
        refine j_iconst dX10_step_52 ?_
        refine r_putI dX10_step_53 flX10_46 rfl (by first | assumption | exact hsh _ _ rfl) (by first | omega | (split <;> omega)) (fun q => by cases q) ?_
        rw [← hK]
        refine j_aload_n dX10_step_56 rfl ?_
        refine r_getIE dX10_step_57 flX10_34 (by first | assumption | exact hsh _ _ rfl) k2 (fun b_57 => ?_)
        refine j_aload_n dX10_step_60 rfl ?_
        refine r_getIE dX10_step_61 flX10_24 (by first | assumption | exact hsh _ _ rfl) k1 (fun b_61 => ?_)
        refine j_icmp_lt (tgt := 75) dX10_step_64 rfl (by first | omega | (split <;> omega)) (by first | omega | (split <;> omega)) (fun c_64 => ?_) (fun c_64 => by exact absurd e c_64)
        refine j_aload_n dX10_step_75 rfl ?_
        refine r_getS dX10_step_76 flX10_9 (by first | assumption | exact hsh _ _ rfl) (fx_154_0 hfx) ?_
        refine j_aload_n dX10_step_79 rfl ?_
        refine r_getIE dX10_step_80 flX10_34 (by first | assumption | exact hsh _ _ rfl) k2 (fun b_80 => ?_)
        refine r_ialoadE dX10_step_83 (by first | assumption | exact hsh _ _ rfl) (by first | omega | (split <;> omega)) (by first | omega | (split <;> omega)) qb (fun b_83 => ?_)
        refine r_cs1I dX10_step_84 csX10_52 (Nat.le_of_ble_eq_true rfl) (Nat.le_of_eq (Nat.zero_add _)) (Nat.le_of_eq (Nat.zero_add _)) (sl) ?_
        refine j_if_eq (tgt := 134) dX10_step_87 rfl (by first | omega | (split <;> omega)) (fun c_87 => by exact absurd c_87 (by decide)) (fun c_87 => ?_)
        refine j_aload_n dX10_step_90 rfl ?_
        refine j_iconst dX10_step_91 ?_
        refine r_putI dX10_step_92 flX10_49 rfl (by first | assumption | exact hsh _ _ rfl) (by first | omega | (split <;> omega)) (fun q => by cases q) ?_
        exact let_ (n - q).toNat q _ (by omega) (Int.le_refl _) e eL rfl (by rw [jup_row _ _ _ (by decide)]; exact k1) (by rw [jup_row _ _ _ (by decide)]; exact k2) (jup_same _ _ _ _) (by rw [jup_row _ _ _ (by decide)]; exact k4) (Fr1_up kf)
      · rw [if_neg eL] at sl
        have sf := st_isFigure (G := G) (d := d) (sh := sh) (I := K) (F := F) (c := B q) jb
        by_cases eD : isD (B q)
        · rw [if_pos eD] at sf
          refine j_aload_n dX10_step_38 rfl ?_
          refine j_aload_n dX10_step_39 rfl ?_
          refine r_getIE dX10_step_40 flX10_34 (by first | assumption | exact hsh _ _ rfl) j2 (fun b_40 => ?_)
          refine r_putI dX10_step_43 flX10_40 rfl (by first | assumption | exact hsh _ _ rfl) (by first | omega | (split <;> omega)) (fun q => by cases q) ?_
          refine j_aload_n dX10_step_46 rfl ?_
          refine j_iconst dX10_step_47 ?_
          refine r_putI dX10_step_48 flX10_43 rfl (by first | assumption | exact hsh _ _ rfl) (by first | omega | (split <;> omega)) (fun q => by cases q) ?_
          refine j_aload_n dX10_step_51 rfl ?_
          refine j_iconst dX10_step_52 ?_
          refine r_putI dX10_step_53 flX10_46 rfl (by first | assumption | exact hsh _ _ rfl) (by first | omega | (split <;> omega)) (fun q => by cases q) ?_
          rw [← hK]
          refine j_aload_n dX10_step_56 rfl ?_
          refine r_getIE dX10_step_57 flX10_34 (by first | assumption | exact hsh _ _ rfl) k2 (fun b_57 => ?_)
          refine j_aload_n dX10_step_60 rfl ?_
          refine r_getIE dX10_step_61 flX10_24 (by first | assumption | exact hsh _ _ rfl) k1 (fun b_61 => ?_)
          refine j_icmp_lt (tgt := 75) dX10_step_64 rfl (by first | omega | (split <;> omega)) (by first | omega | (split <;> omega)) (fun c_64 => ?_) (fun c_64 => by exact absurd e c_64)
          refine j_aload_n dX10_step_75 rfl ?_
          refine r_getS dX10_step_76 flX10_9 (by first | assumption | exact hsh _ _ rfl) (fx_154_0 hfx) ?_
          refine j_aload_n dX10_step_79 rfl ?_
          refine r_getIE dX10_step_80 flX10_34 (by first | assumption | exact hsh _ _ rfl) k2 (fun b_80 => ?_)
          refine r_ialoadE dX10_step_83 (by first | assumption | exact hsh _ _ rfl) (by first | omega | (split <;> omega)) (by first | omega | (split <;> omega)) qb (fun b_83 => ?_)
          refine r_cs1I dX10_step_84 csX10_52 (Nat.le_of_ble_eq_true rfl) (Nat.le_of_eq (Nat.zero_add _)) (Nat.le_of_eq (Nat.zero_add _)) (sl) ?_
          refine j_if_eq (tgt := 134) dX10_step_87 rfl (by first | omega | (split <;> omega)) (fun c_87 => ?_) (fun c_87 => by exact absurd c_87 (by decide))
          refine j_aload_n dX10_step_134 rfl ?_
          refine r_getS dX10_step_135 flX10_9 (by first | assumption | exact hsh _ _ rfl) (fx_154_0 hfx) ?_
          refine j_aload_n dX10_step_138 rfl ?_
          refine r_getIE dX10_step_139 flX10_34 (by first | assumption | exact hsh _ _ rfl) k2 (fun b_139 => ?_)
          refine r_ialoadE dX10_step_142 (by first | assumption | exact hsh _ _ rfl) (by first | omega | (split <;> omega)) (by first | omega | (split <;> omega)) qb (fun b_142 => ?_)
          refine r_cs1I dX10_step_143 csX10_56 (Nat.le_of_ble_eq_true rfl) (Nat.le_of_eq (Nat.zero_add _)) (Nat.le_of_eq (Nat.zero_add _)) (sf) ?_
          refine j_if_eq (tgt := 231) dX10_step_146 rfl (by first | omega | (split <;> omega)) (fun c_146 => by exact absurd c_146 (by decide)) (fun c_146 => ?_)
          refine j_aload_n dX10_step_149 rfl ?_
          refine j_iconst dX10_step_150 ?_
          refine r_putI dX10_step_151 flX10_49 rfl (by first | assumption | exact hsh _ _ rfl) (by first | omega | (split <;> omega)) (fun q => by cases q) ?_
          exact fig_ (n - q).toNat q _ (by omega) (Int.le_refl _) e eL eD rfl (fun k k0 k1 => by omega) (by rw [jup_row _ _ _ (by decide)]; exact k1) (by rw [jup_row _ _ _ (by decide)]; exact k2) (jup_same _ _ _ _) (by rw [jup_row _ _ _ (by decide)]; exact k4) (by rw [jup_row _ _ _ (by decide), k6, show (min 7 (q - q)).toNat = 0 by omega]; rfl) (Fr1_up kf)
        · rw [if_neg eD] at sf
          have eE : tkE B n q = q + 1 := by unfold tkE; rw [if_pos e, if_neg eL, if_neg eD]
          have eK : tkK B n q = 3 := by unfold tkK; rw [if_pos e, if_neg eL, if_neg eD]
          have k2' : jup K 154 3 3 154 2 = q := by rw [jup_row _ _ _ (by decide)]; exact k2
          refine j_aload_n dX10_step_38 rfl ?_
          refine j_aload_n dX10_step_39 rfl ?_
          refine r_getIE dX10_step_40 flX10_34 (by first | assumption | exact hsh _ _ rfl) j2 (fun b_40 => ?_)
          refine r_putI dX10_step_43 flX10_40 rfl (by first | assumption | exact hsh _ _ rfl) (by first | omega | (split <;> omega)) (fun q => by cases q) ?_
          refine j_aload_n dX10_step_46 rfl ?_
          refine j_iconst dX10_step_47 ?_
          refine r_putI dX10_step_48 flX10_43 rfl (by first | assumption | exact hsh _ _ rfl) (by first | omega | (split <;> omega)) (fun q => by cases q) ?_
          refine j_aload_n dX10_step_51 rfl ?_
          refine j_iconst dX10_step_52 ?_
          refine r_putI dX10_step_53 flX10_46 rfl (by first | assumption | exact hsh _ _ rfl) (by first | omega | (split <;> omega)) (fun q => by cases q) ?_
          rw [← hK]
          refine j_aload_n dX10_step_56 rfl ?_
          refine r_getIE dX10_step_57 flX10_34 (by first | assumption | exact hsh _ _ rfl) k2 (fun b_57 => ?_)
          refine j_aload_n dX10_step_60 rfl ?_
          refine r_getIE dX10_step_61 flX10_24 (by first | assumption | exact hsh _ _ rfl) k1 (fun b_61 => ?_)
          refine j_icmp_lt (tgt := 75) dX10_step_64 rfl (by first | omega | (split <;> omega)) (by first | omega | (split <;> omega)) (fun c_64 => ?_) (fun c_64 => by exact absurd e c_64)
          refine j_aload_n dX10_step_75 rfl ?_
          refine r_getS dX10_step_76 flX10_9 (by first | assumption | exact hsh _ _ rfl) (fx_154_0 hfx) ?_
          refine j_aload_n dX10_step_79 rfl ?_
          refine r_getIE dX10_step_80 flX10_34 (by first | assumption | exact hsh _ _ rfl) k2 (fun b_80 => ?_)
          refine r_ialoadE dX10_step_83 (by first | assumption | exact hsh _ _ rfl) (by first | omega | (split <;> omega)) (by first | omega | (split <;> omega)) qb (fun b_83 => ?_)
          refine r_cs1I dX10_step_84 csX10_52 (Nat.le_of_ble_eq_true rfl) (Nat.le_of_eq (Nat.zero_add _)) (Nat.le_of_eq (Nat.zero_add _)) (sl) ?_
          refine j_if_eq (tgt := 134) dX10_step_87 rfl (by first | omega | (split <;> omega)) (fun c_87 => ?_) (fun c_87 => by exact absurd c_87 (by decide))
          refine j_aload_n dX10_step_134 rfl ?_
          refine r_getS dX10_step_135 flX10_9 (by first | assumption | exact hsh _ _ rfl) (fx_154_0 hfx) ?_
          refine j_aload_n dX10_step_138 rfl ?_
          refine r_getIE dX10_step_139 flX10_34 (by first | assumption | exact hsh _ _ rfl) k2 (fun b_139 => ?_)
          refine r_ialoadE dX10_step_142 (by first | assumption | exact hsh _ _ rfl) (by first | omega | (split <;> omega)) (by first | omega | (split <;> omega)) qb (fun b_142 => ?_)
          refine r_cs1I dX10_step_143 csX10_56 (Nat.le_of_ble_eq_true rfl) (Nat.le_of_eq (Nat.zero_add _)) (Nat.le_of_eq (Nat.zero_add _)) (sf) ?_
          refine j_if_eq (tgt := 231) dX10_step_146 rfl (by first | omega | (split <;> omega)) (fun c_146 => ?_) (fun c_146 => by exact absurd c_146 (by decide))
          refine j_aload_n dX10_step_231 rfl ?_
          refine j_iconst dX10_step_232 ?_
          refine r_putI dX10_step_233 flX10_49 rfl (by first | assumption | exact hsh _ _ rfl) (by first | omega | (split <;> omega)) (fun q => by cases q) ?_
          refine j_aload_n dX10_step_236 rfl ?_
          refine j_dup dX10_step_237 trivial ?_
          refine r_getIE dX10_step_238 flX10_34 (by first | assumption | exact hsh _ _ rfl) k2' (fun b_238 => ?_)
          refine j_iconst dX10_step_241 ?_
          refine j_iadd dX10_step_242 ?_
          refine r_putI dX10_step_243 flX10_34 rfl (by first | assumption | exact hsh _ _ rfl) (by first | omega | (split <;> omega)) (fun q => by cases q) ?_
          exact fin _ (by rw [jup_row _ _ _ (by decide), jup_row _ _ _ (by decide)]; exact k1) (by rw [jup_same, eE]) (by rw [jup_row _ _ _ (by decide), jup_same, eK]) (by rw [jup_row _ _ _ (by decide), jup_row _ _ _ (by decide)]; exact k4) (fun h => by omega) (Fr1_up (Fr1_up kf))
    · have eE : tkE B n q = q := by unfold tkE; rw [if_neg e]
      have eK : tkK B n q = 0 := by unfold tkK; rw [if_neg e]
      refine j_aload_n dX10_step_38 rfl ?_
      refine j_aload_n dX10_step_39 rfl ?_
      refine r_getIE dX10_step_40 flX10_34 (by first | assumption | exact hsh _ _ rfl) j2 (fun b_40 => ?_)
      refine r_putI dX10_step_43 flX10_40 rfl (by first | assumption | exact hsh _ _ rfl) (by first | omega | (split <;> omega)) (fun q => by cases q) ?_
      refine j_aload_n dX10_step_46 rfl ?_
      refine j_iconst dX10_step_47 ?_
      refine r_putI dX10_step_48 flX10_43 rfl (by first | assumption | exact hsh _ _ rfl) (by first | omega | (split <;> omega)) (fun q => by cases q) ?_
      refine j_aload_n dX10_step_51 rfl ?_
      refine j_iconst dX10_step_52 ?_
      refine r_putI dX10_step_53 flX10_46 rfl (by first | assumption | exact hsh _ _ rfl) (by first | omega | (split <;> omega)) (fun q => by cases q) ?_
      rw [← hK]
      refine j_aload_n dX10_step_56 rfl ?_
      refine r_getIE dX10_step_57 flX10_34 (by first | assumption | exact hsh _ _ rfl) k2 (fun b_57 => ?_)
      refine j_aload_n dX10_step_60 rfl ?_
      refine r_getIE dX10_step_61 flX10_24 (by first | assumption | exact hsh _ _ rfl) k1 (fun b_61 => ?_)
      refine j_icmp_lt (tgt := 75) dX10_step_64 rfl (by first | omega | (split <;> omega)) (by first | omega | (split <;> omega)) (fun c_64 => by exact absurd c_64 e) (fun c_64 => ?_)
      refine j_aload_n dX10_step_67 rfl ?_
      refine j_iconst dX10_step_68 ?_
      refine r_putI dX10_step_69 flX10_49 rfl (by first | assumption | exact hsh _ _ rfl) (by first | omega | (split <;> omega)) (fun q => by cases q) ?_
      refine j_goto (tgt := 246) dX10_step_72 rfl ?_
      exact fin _ (by rw [jup_row _ _ _ (by decide)]; exact k1) (by rw [jup_row _ _ _ (by decide), eE]; exact k2) (by rw [jup_same, eK]) (by rw [jup_row _ _ _ (by decide)]; exact k4) (fun h => by omega) (Fr1_up kf)
  -- the blanks
  have bl : ∀ (m : Nat) (r : Int) (J : Nat → Int → Int), r + m = n → 0 ≤ r → lxB B n r = q → J 154 1 = n → J 154 2 = r → Fr1 154 I J → jW G mX10_step (d + 1) Q9 0 [some (jR (some 154))] [] (sh, J, F) 0 0 := by
    intro m
    induction m with
    | zero =>
      intro r J hr hr0 hlx j1 j2 jf
      have er : r = q := by rw [← hlx]; exact (lx_f (by omega)).symm
      refine j_aload_n dX10_step_0 rfl ?_
      refine r_getIE dX10_step_1 flX10_34 (by first | assumption | exact hsh _ _ rfl) j2 (fun b_1 => ?_)
      refine j_aload_n dX10_step_4 rfl ?_
      refine r_getIE dX10_step_5 flX10_24 (by first | assumption | exact hsh _ _ rfl) j1 (fun b_5 => ?_)
      refine j_icmp_ge (tgt := 38) dX10_step_8 rfl (by first | omega | (split <;> omega)) (by first | omega | (split <;> omega)) (fun c_8 => ?_) (fun c_8 => by exact absurd (by omega) c_8)
      exact beg J j1 (by rw [j2, er]) jf
    | succ m ih =>
      intro r J hr hr0 hlx j1 j2 jf
      have qb : J 155 r = B r := by rw [jf 155 (by decide)]; exact hB r hr0 (by omega)
      have jb := hBj r hr0 (by omega)
      by_cases e : B r = 32
      · refine j_aload_n dX10_step_0 rfl ?_
        refine r_getIE dX10_step_1 flX10_34 (by first | assumption | exact hsh _ _ rfl) j2 (fun b_1 => ?_)
        refine j_aload_n dX10_step_4 rfl ?_
        refine r_getIE dX10_step_5 flX10_24 (by first | assumption | exact hsh _ _ rfl) j1 (fun b_5 => ?_)
        refine j_icmp_ge (tgt := 38) dX10_step_8 rfl (by first | omega | (split <;> omega)) (by first | omega | (split <;> omega)) (fun c_8 => by exact absurd c_8 (by omega)) (fun c_8 => ?_)
        refine j_aload_n dX10_step_11 rfl ?_
        refine r_getS dX10_step_12 flX10_9 (by first | assumption | exact hsh _ _ rfl) (fx_154_0 hfx) ?_
        refine j_aload_n dX10_step_15 rfl ?_
        refine r_getIE dX10_step_16 flX10_34 (by first | assumption | exact hsh _ _ rfl) j2 (fun b_16 => ?_)
        refine r_ialoadE dX10_step_19 (by first | assumption | exact hsh _ _ rfl) (by first | omega | (split <;> omega)) (by first | omega | (split <;> omega)) qb (fun b_19 => ?_)
        refine j_bipush dX10_step_20 (by decide) ?_
        refine j_icmp_ne (tgt := 38) dX10_step_22 rfl (by first | omega | (split <;> omega)) (by first | omega | (split <;> omega)) (fun c_22 => by exact absurd e c_22) (fun c_22 => ?_)
        refine j_aload_n dX10_step_25 rfl ?_
        refine j_dup dX10_step_26 trivial ?_
        refine r_getIE dX10_step_27 flX10_34 (by first | assumption | exact hsh _ _ rfl) j2 (fun b_27 => ?_)
        refine j_iconst dX10_step_30 ?_
        refine j_iadd dX10_step_31 ?_
        refine r_putI dX10_step_32 flX10_34 rfl (by first | assumption | exact hsh _ _ rfl) (by first | omega | (split <;> omega)) (fun q => by cases q) ?_
        refine j_goto (tgt := 0) dX10_step_35 rfl ?_
        exact ih (r + 1) _ (by omega) (by omega) (by rw [← hlx]; exact (lx_t ⟨by omega, by omega, by omega⟩).symm) (by rw [jup_row _ _ _ (by decide)]; exact j1) (jup_same _ _ _ _) (Fr1_up jf)
      · have er : r = q := by rw [← hlx]; exact (lx_f (fun x => e (by omega))).symm
        refine j_aload_n dX10_step_0 rfl ?_
        refine r_getIE dX10_step_1 flX10_34 (by first | assumption | exact hsh _ _ rfl) j2 (fun b_1 => ?_)
        refine j_aload_n dX10_step_4 rfl ?_
        refine r_getIE dX10_step_5 flX10_24 (by first | assumption | exact hsh _ _ rfl) j1 (fun b_5 => ?_)
        refine j_icmp_ge (tgt := 38) dX10_step_8 rfl (by first | omega | (split <;> omega)) (by first | omega | (split <;> omega)) (fun c_8 => by exact absurd c_8 (by omega)) (fun c_8 => ?_)
        refine j_aload_n dX10_step_11 rfl ?_
        refine r_getS dX10_step_12 flX10_9 (by first | assumption | exact hsh _ _ rfl) (fx_154_0 hfx) ?_
        refine j_aload_n dX10_step_15 rfl ?_
        refine r_getIE dX10_step_16 flX10_34 (by first | assumption | exact hsh _ _ rfl) j2 (fun b_16 => ?_)
        refine r_ialoadE dX10_step_19 (by first | assumption | exact hsh _ _ rfl) (by first | omega | (split <;> omega)) (by first | omega | (split <;> omega)) qb (fun b_19 => ?_)
        refine j_bipush dX10_step_20 (by decide) ?_
        refine j_icmp_ne (tgt := 38) dX10_step_22 rfl (by first | omega | (split <;> omega)) (by first | omega | (split <;> omega)) (fun c_22 => ?_) (fun c_22 => by exact absurd (Classical.not_not.1 c_22) e)
        exact beg J j1 (by rw [j2, er]) jf
  exact bl (n - p).toNat p I (by omega) hp.1 hq h1 h2 (fun _ _ => rfl)
theorem st_next (hsh : ShOK sh) (hfx : FxOK F) (hT : Tx I B n q) : jS G (d + 1) mX10_step [jR (some 154)] (sh, I, F) 0 0 (rEV sh F (fun J => Tx J B n (tkN B n q) ∧ Fr1 154 I J)) := by
  obtain ⟨t1, t2, t3, t4, t5, t6, t7, t8, t9⟩ := hT
  have := tkE_in (B := B) (n := n) (q := q) t8.2
  exact st_step hsh hfx t1 t2 (by omega) t9 t7
theorem st_isEnd (hsh : ShOK sh) (hT : Tx I B n q) : jS G d mX10_isEnd [jR (some 154)] (sh, I, F) 0 0 (rI (if tkK B n q = 0 then 1 else 0) (sh, I, F)) := by
  have t3 := hT.2.2.1
  refine jS_go [some (jR (some 154))] (by decide +kernel) rfl (by simp [jone]) (Nat.le_of_ble_eq_true rfl) rfl (fun hok => ?_)
  refine j_aload_n dX10_isEnd_0 rfl ?_
  refine r_getIE dX10_isEnd_1 flX10_49 (by first | assumption | exact hsh _ _ rfl) t3 (fun b_1 => ?_)
  refine j_if_ne (tgt := 11) dX10_isEnd_4 rfl (by first | omega | (split <;> omega)) (fun c_4 => ?_) (fun c_4 => ?_)
  · refine j_iconst dX10_isEnd_11 ?_
    refine j_zret dX10_isEnd_12 rfl (by omega) ?_
    exact rI_of (by first | rw [if_pos (Classical.not_not.1 c_4)] | rw [if_neg c_4]) rfl
  · refine j_iconst dX10_isEnd_7 ?_
    refine j_goto (tgt := 12) dX10_isEnd_8 rfl ?_
    refine j_zret dX10_isEnd_12 rfl (by omega) ?_
    exact rI_of (by first | rw [if_pos (Classical.not_not.1 c_4)] | rw [if_neg c_4]) rfl
theorem tkK_in : tkK B n q = 0 ∧ ¬ q < n ∨ (q < n ∧ (tkK B n q = 1 ∧ isL (B q) ∨ tkK B n q = 2 ∧ ¬ isL (B q) ∧ isD (B q) ∨ tkK B n q = 3 ∧ ¬ isL (B q) ∧ ¬ isD (B q))) := by
  unfold tkK
  by_cases e : q < n
  · rw [if_pos e]
    refine Or.inr ⟨e, ?_⟩
    by_cases e1 : isL (B q)
    · rw [if_pos e1]; exact Or.inl ⟨rfl, e1⟩
    · rw [if_neg e1]
      by_cases e2 : isD (B q)
      · rw [if_pos e2]; exact Or.inr (Or.inl ⟨rfl, e1, e2⟩)
      · rw [if_neg e2]; exact Or.inr (Or.inr ⟨rfl, e1, e2⟩)
  · rw [if_neg e]; exact Or.inl ⟨rfl, e⟩
theorem st_isSign (hsh : ShOK sh) (hfx : FxOK F) (hT : Tx I B n q) {c : Int} (hc : jin c) : jS G d mX10_isSign [jR (some 154), jI c] (sh, I, F) 0 0 (rI (if vSg B n q c then 1 else 0) (sh, I, F)) := by
  obtain ⟨t1, t2, t3, t4, t5, t6, t7, t8, t9⟩ := hT
  have hk := tkK_in (B := B) (n := n) (q := q)
  refine jS_go [some (jR (some 154)), some (jI c)] (by decide +kernel) rfl (by simp [jone]) (Nat.le_of_ble_eq_true rfl) rfl (fun hok => ?_)
  by_cases e : tkK B n q = 3
  · have qb := t7 q t8.1 (by omega)
    by_cases e2 : B q = c
    · rw [if_pos ⟨e, e2⟩]
      refine j_aload_n dX10_isSign_0 rfl ?_
      refine r_getIE dX10_isSign_1 flX10_49 (by first | assumption | exact hsh _ _ rfl) t3 (fun b_1 => ?_)
      refine j_iconst dX10_isSign_4 ?_
      refine j_icmp_ne (tgt := 36) dX10_isSign_5 rfl (by first | omega | (split <;> omega)) (by first | omega | (split <;> omega)) (fun c_5 => by exact absurd e c_5) (fun c_5 => ?_)
      refine j_aload_n dX10_isSign_8 rfl ?_
      refine r_getIE dX10_isSign_9 flX10_40 (by first | assumption | exact hsh _ _ rfl) t4 (fun b_9 => ?_)
      refine j_aload_n dX10_isSign_12 rfl ?_
      refine r_getIE dX10_isSign_13 flX10_24 (by first | assumption | exact hsh _ _ rfl) t1 (fun b_13 => ?_)
      refine j_icmp_ge (tgt := 36) dX10_isSign_16 rfl (by first | omega | (split <;> omega)) (by first | omega | (split <;> omega)) (fun c_16 => by exact absurd c_16 (by omega)) (fun c_16 => ?_)
      refine j_aload_n dX10_isSign_19 rfl ?_
      refine r_getS dX10_isSign_20 flX10_9 (by first | assumption | exact hsh _ _ rfl) (fx_154_0 hfx) ?_
      refine j_aload_n dX10_isSign_23 rfl ?_
      refine r_getIE dX10_isSign_24 flX10_40 (by first | assumption | exact hsh _ _ rfl) t4 (fun b_24 => ?_)
      refine r_ialoadE dX10_isSign_27 (by first | assumption | exact hsh _ _ rfl) (by first | omega | (split <;> omega)) (by first | omega | (split <;> omega)) qb (fun b_27 => ?_)
      refine j_iload_n dX10_isSign_28 rfl ?_
      refine j_icmp_ne (tgt := 36) dX10_isSign_29 rfl (by first | omega | (split <;> omega)) (by first | omega | (split <;> omega)) (fun c_29 => by exact absurd e2 c_29) (fun c_29 => ?_)
      refine j_iconst dX10_isSign_32 ?_
      refine j_goto (tgt := 37) dX10_isSign_33 rfl ?_
      refine j_zret dX10_isSign_37 rfl (by omega) ?_
      exact rI_of rfl rfl
    · rw [if_neg (fun x => e2 x.2)]
      refine j_aload_n dX10_isSign_0 rfl ?_
      refine r_getIE dX10_isSign_1 flX10_49 (by first | assumption | exact hsh _ _ rfl) t3 (fun b_1 => ?_)
      refine j_iconst dX10_isSign_4 ?_
      refine j_icmp_ne (tgt := 36) dX10_isSign_5 rfl (by first | omega | (split <;> omega)) (by first | omega | (split <;> omega)) (fun c_5 => by exact absurd e c_5) (fun c_5 => ?_)
      refine j_aload_n dX10_isSign_8 rfl ?_
      refine r_getIE dX10_isSign_9 flX10_40 (by first | assumption | exact hsh _ _ rfl) t4 (fun b_9 => ?_)
      refine j_aload_n dX10_isSign_12 rfl ?_
      refine r_getIE dX10_isSign_13 flX10_24 (by first | assumption | exact hsh _ _ rfl) t1 (fun b_13 => ?_)
      refine j_icmp_ge (tgt := 36) dX10_isSign_16 rfl (by first | omega | (split <;> omega)) (by first | omega | (split <;> omega)) (fun c_16 => by exact absurd c_16 (by omega)) (fun c_16 => ?_)
      refine j_aload_n dX10_isSign_19 rfl ?_
      refine r_getS dX10_isSign_20 flX10_9 (by first | assumption | exact hsh _ _ rfl) (fx_154_0 hfx) ?_
      refine j_aload_n dX10_isSign_23 rfl ?_
      refine r_getIE dX10_isSign_24 flX10_40 (by first | assumption | exact hsh _ _ rfl) t4 (fun b_24 => ?_)
      refine r_ialoadE dX10_isSign_27 (by first | assumption | exact hsh _ _ rfl) (by first | omega | (split <;> omega)) (by first | omega | (split <;> omega)) qb (fun b_27 => ?_)
      refine j_iload_n dX10_isSign_28 rfl ?_
      refine j_icmp_ne (tgt := 36) dX10_isSign_29 rfl (by first | omega | (split <;> omega)) (by first | omega | (split <;> omega)) (fun c_29 => ?_) (fun c_29 => by exact absurd (Classical.not_not.1 c_29) e2)
      refine j_iconst dX10_isSign_36 ?_
      refine j_zret dX10_isSign_37 rfl (by omega) ?_
      exact rI_of rfl rfl
  · rw [if_neg (fun x => e x.1)]
    refine j_aload_n dX10_isSign_0 rfl ?_
    refine r_getIE dX10_isSign_1 flX10_49 (by first | assumption | exact hsh _ _ rfl) t3 (fun b_1 => ?_)
    refine j_iconst dX10_isSign_4 ?_
    refine j_icmp_ne (tgt := 36) dX10_isSign_5 rfl (by first | omega | (split <;> omega)) (by first | omega | (split <;> omega)) (fun c_5 => ?_) (fun c_5 => by exact absurd (Classical.not_not.1 c_5) e)
    refine j_iconst dX10_isSign_36 ?_
    refine j_zret dX10_isSign_37 rfl (by omega) ?_
    exact rI_of rfl rfl
theorem st_isNumber (hsh : ShOK sh) (hT : Tx I B n q) {f lo hi : Int} (hf : 0 ≤ f ∧ f ≤ 7) (h1 : jin lo) (h2 : jin hi) : jS G d mX10_isNumber [jR (some 154), jI f, jI lo, jI hi] (sh, I, F) 0 0 (rI (if vNm B n q f lo hi then 1 else 0) (sh, I, F)) := by
  obtain ⟨t1, t2, t3, t4, t5, t6, t7, t8, t9⟩ := hT
  have hE := tkE_in (B := B) (n := n) (q := q) t8.2
  refine jS_go [some (jR (some 154)), some (jI f), some (jI lo), some (jI hi)] (by decide +kernel) rfl (by simp [jone]) (Nat.le_of_ble_eq_true rfl) rfl (fun hok => ?_)
  by_cases e : tkK B n q = 2
  · by_cases e2 : tkE B n q - q ≤ f
    · have t6' : I 154 6 = tkV B q (tkE B n q - q).toNat := by rw [t6 e, show min 7 (tkE B n q - q) = tkE B n q - q by omega]
      refine j_aload_n dX10_isNumber_0 rfl ?_
      refine r_getIE dX10_isNumber_1 flX10_49 (by first | assumption | exact hsh _ _ rfl) t3 (fun b_1 => ?_)
      refine j_iconst dX10_isNumber_4 ?_
      refine j_icmp_ne (tgt := 36) dX10_isNumber_5 rfl (by first | omega | (split <;> omega)) (by first | omega | (split <;> omega)) (fun c_5 => by exact absurd e c_5) (fun c_5 => ?_)
      refine j_aload_n dX10_isNumber_8 rfl ?_
      refine r_getIE dX10_isNumber_9 flX10_43 (by first | assumption | exact hsh _ _ rfl) t5 (fun b_9 => ?_)
      refine j_iload_n dX10_isNumber_12 rfl ?_
      refine j_icmp_gt (tgt := 36) dX10_isNumber_13 rfl (by first | omega | (split <;> omega)) (by first | omega | (split <;> omega)) (fun c_13 => by exact absurd c_13 (by omega)) (fun c_13 => ?_)
      refine j_aload_n dX10_isNumber_16 rfl ?_
      refine r_getIE dX10_isNumber_17 flX10_46 (by first | assumption | exact hsh _ _ rfl) t6' (fun b_17 => ?_)
      refine j_iload_n dX10_isNumber_20 rfl ?_
      refine j_icmp_lt (tgt := 36) dX10_isNumber_21 rfl (by first | omega | (split <;> omega)) (by first | omega | (split <;> omega)) (fun c_21 => ?_) (fun c_21 => ?_)
      · refine j_iconst dX10_isNumber_36 ?_
        refine j_zret dX10_isNumber_37 rfl (by omega) ?_
        refine rI_of ?_ rfl
        first | rw [if_pos ⟨e, e2, by omega, by omega⟩] | rw [if_neg (fun x => by have := x.2.2; omega)]
      · refine j_aload_n dX10_isNumber_24 rfl ?_
        refine r_getIE dX10_isNumber_25 flX10_46 (by first | assumption | exact hsh _ _ rfl) t6' (fun b_25 => ?_)
        refine j_iload_n dX10_isNumber_28 rfl ?_
        refine j_icmp_gt (tgt := 36) dX10_isNumber_29 rfl (by first | omega | (split <;> omega)) (by first | omega | (split <;> omega)) (fun c_29 => ?_) (fun c_29 => ?_)
        · refine j_iconst dX10_isNumber_36 ?_
          refine j_zret dX10_isNumber_37 rfl (by omega) ?_
          refine rI_of ?_ rfl
          first | rw [if_pos ⟨e, e2, by omega, by omega⟩] | rw [if_neg (fun x => by have := x.2.2; omega)]
        · refine j_iconst dX10_isNumber_32 ?_
          refine j_goto (tgt := 37) dX10_isNumber_33 rfl ?_
          refine j_zret dX10_isNumber_37 rfl (by omega) ?_
          refine rI_of ?_ rfl
          first | rw [if_pos ⟨e, e2, by omega, by omega⟩] | rw [if_neg (fun x => by have := x.2.2; omega)]
    · rw [if_neg (fun x => e2 x.2.1)]
      refine j_aload_n dX10_isNumber_0 rfl ?_
      refine r_getIE dX10_isNumber_1 flX10_49 (by first | assumption | exact hsh _ _ rfl) t3 (fun b_1 => ?_)
      refine j_iconst dX10_isNumber_4 ?_
      refine j_icmp_ne (tgt := 36) dX10_isNumber_5 rfl (by first | omega | (split <;> omega)) (by first | omega | (split <;> omega)) (fun c_5 => by exact absurd e c_5) (fun c_5 => ?_)
      refine j_aload_n dX10_isNumber_8 rfl ?_
      refine r_getIE dX10_isNumber_9 flX10_43 (by first | assumption | exact hsh _ _ rfl) t5 (fun b_9 => ?_)
      refine j_iload_n dX10_isNumber_12 rfl ?_
      refine j_icmp_gt (tgt := 36) dX10_isNumber_13 rfl (by first | omega | (split <;> omega)) (by first | omega | (split <;> omega)) (fun c_13 => ?_) (fun c_13 => by exact absurd (by omega) c_13)
      refine j_iconst dX10_isNumber_36 ?_
      refine j_zret dX10_isNumber_37 rfl (by omega) ?_
      exact rI_of rfl rfl
  · rw [if_neg (fun x => e x.1)]
    refine j_aload_n dX10_isNumber_0 rfl ?_
    refine r_getIE dX10_isNumber_1 flX10_49 (by first | assumption | exact hsh _ _ rfl) t3 (fun b_1 => ?_)
    refine j_iconst dX10_isNumber_4 ?_
    refine j_icmp_ne (tgt := 36) dX10_isNumber_5 rfl (by first | omega | (split <;> omega)) (by first | omega | (split <;> omega)) (fun c_5 => ?_) (fun c_5 => by exact absurd (Classical.not_not.1 c_5) e)
    refine j_iconst dX10_isNumber_36 ?_
    refine j_zret dX10_isNumber_37 rfl (by omega) ?_
    exact rI_of rfl rfl
theorem st_isWord (hsh : ShOK sh) (hfx : FxOK F) (hT : Tx I B n q) {t : Nat} (ht : t < 33) : jS G (d + 4) mX10_isWord [jR (some 154), jX (t + 1)] (sh, I, F) 0 0 (rI (if vWd B n q t then 1 else 0) (sh, I, F)) := by
  obtain ⟨t1, t2, t3, t4, t5, t6, t7, t8, t9⟩ := hT
  have hE := tkE_in (B := B) (n := n) (q := q) t8.2
  have hl := jzBy_len t ht
  have eL : txL t = ((jzBy.getD t []).length : Int) := rfl
  have sL := sj_length (G := G) (d := d + 2) (sh := sh) (I := I) (F := F) ht
  have hj5 : jin (tkE B n q - q) := by omega
  have hjL : jin (txL t) := by omega
  refine jS_go [some (jR (some 154)), some (jX (t + 1)), none] (by decide +kernel) rfl (by simp [jone]) (Nat.le_of_ble_eq_true rfl) rfl (fun hok => ?_)
  by_cases e : tkK B n q = 1
  · by_cases e2 : tkE B n q - q = txL t
    · have loop : ∀ (m : Nat) (i : Nat), i + m = (jzBy.getD t []).length → (∀ j : Nat, j < i → B (q + (j : Int)) = (((jzBy.getD t []).getD j 0 : Nat) : Int)) → jW G mX10_isWord (d + 4) (rI (if vWd B n q t then 1 else 0) (sh, I, F)) 23 [some (jR (some 154)), some (jX (t + 1)), some (jI (i : Int))] [] (sh, I, F) 0 0 := by
        intro m
        induction m with
        | zero =>
          intro i hi hj
          rw [if_pos ⟨e, e2, fun j hj2 => hj j (by omega)⟩]
          refine j_iload_n dX10_isWord_23 rfl ?_
          refine j_aload_n dX10_isWord_24 rfl ?_
          refine r_cx0I dX10_isWord_25 cvX10_59 ht (Nat.le_of_ble_eq_true rfl) sL ?_
          refine j_icmp_ge (tgt := 71) dX10_isWord_28 rfl (by first | omega | (split <;> omega)) (by first | omega | (split <;> omega)) (fun c_28 => ?_) (fun c_28 => by exact absurd (by omega) c_28)
          refine j_iconst dX10_isWord_71 ?_
          refine j_zret dX10_isWord_72 rfl (by omega) ?_
          exact rI_of rfl rfl
        | succ m ih =>
          intro i hi hj
          have qb := t7 (q + (i : Int)) (by omega) (by omega)
          have sc := sj_charAt (G := G) (d := d) (sh := sh) (I := I) (F := F) ht (i := (i : Int)) (by omega)
          have ec : txC t (i : Int) = (((jzBy.getD t []).getD i 0 : Nat) : Int) := by show (((jzBy.getD t []).getD (i : Int).toNat 0 : Nat) : Int) = _; rw [show (i : Int).toNat = i by omega]
          rw [ec] at sc
          have hc := tx_ok t ht i (by omega)
          by_cases c : B (q + (i : Int)) = (((jzBy.getD t []).getD i 0 : Nat) : Int)
          · have ih2 := ih (i + 1) (by omega) (fun j hj2 => by
              by_cases c2 : j = i
              · subst c2; exact c
              · exact hj j (by omega))
            refine j_iload_n dX10_isWord_23 rfl ?_
            refine j_aload_n dX10_isWord_24 rfl ?_
            refine r_cx0I dX10_isWord_25 cvX10_59 ht (Nat.le_of_ble_eq_true rfl) sL ?_
            refine j_icmp_ge (tgt := 71) dX10_isWord_28 rfl (by first | omega | (split <;> omega)) (by first | omega | (split <;> omega)) (fun c_28 => by exact absurd c_28 (by omega)) (fun c_28 => ?_)
            refine j_aload_n dX10_isWord_31 rfl ?_
            refine r_getIE dX10_isWord_32 flX10_40 (by first | assumption | exact hsh _ _ rfl) t4 (fun b_32 => ?_)
            refine j_iload_n dX10_isWord_35 rfl ?_
            refine j_iadd dX10_isWord_36 ?_
            refine j_aload_n dX10_isWord_37 rfl ?_
            refine r_getIE dX10_isWord_38 flX10_24 (by first | assumption | exact hsh _ _ rfl) t1 (fun b_38 => ?_)
            refine j_icmp_ge (tgt := 71) dX10_isWord_41 rfl (by first | omega | (split <;> omega)) (by first | omega | (split <;> omega)) (fun c_41 => by exact absurd c_41 (by omega)) (fun c_41 => ?_)
            refine j_aload_n dX10_isWord_44 rfl ?_
            refine r_getS dX10_isWord_45 flX10_9 (by first | assumption | exact hsh _ _ rfl) (fx_154_0 hfx) ?_
            refine j_aload_n dX10_isWord_48 rfl ?_
            refine r_getIE dX10_isWord_49 flX10_40 (by first | assumption | exact hsh _ _ rfl) t4 (fun b_49 => ?_)
            refine j_iload_n dX10_isWord_52 rfl ?_
            refine j_iadd dX10_isWord_53 ?_
            refine r_ialoadE dX10_isWord_54 (by first | assumption | exact hsh _ _ rfl) (by first | omega | (split <;> omega)) (by first | omega | (split <;> omega)) qb (fun b_54 => ?_)
            refine j_aload_n dX10_isWord_55 rfl ?_
            refine j_iload_n dX10_isWord_56 rfl ?_
            refine r_cx1I dX10_isWord_57 cvX10_65 ht (Nat.le_of_ble_eq_true rfl) sc ?_
            refine j_icmp_eq (tgt := 65) dX10_isWord_60 rfl (by first | omega | (split <;> omega)) (by first | omega | (split <;> omega)) (fun c_60 => ?_) (fun c_60 => by exact absurd c c_60)
            refine j_iinc dX10_isWord_65 rfl (by decide) ?_
            refine j_goto (tgt := 23) dX10_isWord_68 rfl ?_
            exact ih2
          · rw [if_neg (fun x => c (x.2.2 i (by omega)))]
            refine j_iload_n dX10_isWord_23 rfl ?_
            refine j_aload_n dX10_isWord_24 rfl ?_
            refine r_cx0I dX10_isWord_25 cvX10_59 ht (Nat.le_of_ble_eq_true rfl) sL ?_
            refine j_icmp_ge (tgt := 71) dX10_isWord_28 rfl (by first | omega | (split <;> omega)) (by first | omega | (split <;> omega)) (fun c_28 => by exact absurd c_28 (by omega)) (fun c_28 => ?_)
            refine j_aload_n dX10_isWord_31 rfl ?_
            refine r_getIE dX10_isWord_32 flX10_40 (by first | assumption | exact hsh _ _ rfl) t4 (fun b_32 => ?_)
            refine j_iload_n dX10_isWord_35 rfl ?_
            refine j_iadd dX10_isWord_36 ?_
            refine j_aload_n dX10_isWord_37 rfl ?_
            refine r_getIE dX10_isWord_38 flX10_24 (by first | assumption | exact hsh _ _ rfl) t1 (fun b_38 => ?_)
            refine j_icmp_ge (tgt := 71) dX10_isWord_41 rfl (by first | omega | (split <;> omega)) (by first | omega | (split <;> omega)) (fun c_41 => by exact absurd c_41 (by omega)) (fun c_41 => ?_)
            refine j_aload_n dX10_isWord_44 rfl ?_
            refine r_getS dX10_isWord_45 flX10_9 (by first | assumption | exact hsh _ _ rfl) (fx_154_0 hfx) ?_
            refine j_aload_n dX10_isWord_48 rfl ?_
            refine r_getIE dX10_isWord_49 flX10_40 (by first | assumption | exact hsh _ _ rfl) t4 (fun b_49 => ?_)
            refine j_iload_n dX10_isWord_52 rfl ?_
            refine j_iadd dX10_isWord_53 ?_
            refine r_ialoadE dX10_isWord_54 (by first | assumption | exact hsh _ _ rfl) (by first | omega | (split <;> omega)) (by first | omega | (split <;> omega)) qb (fun b_54 => ?_)
            refine j_aload_n dX10_isWord_55 rfl ?_
            refine j_iload_n dX10_isWord_56 rfl ?_
            refine r_cx1I dX10_isWord_57 cvX10_65 ht (Nat.le_of_ble_eq_true rfl) sc ?_
            refine j_icmp_eq (tgt := 65) dX10_isWord_60 rfl (by first | omega | (split <;> omega)) (by first | omega | (split <;> omega)) (fun c_60 => by exact absurd c_60 c) (fun c_60 => ?_)
            refine j_iconst dX10_isWord_63 ?_
            refine j_zret dX10_isWord_64 rfl (by omega) ?_
            exact rI_of rfl rfl
      refine j_aload_n dX10_isWord_0 rfl ?_
      refine r_getIE dX10_isWord_1 flX10_49 (by first | assumption | exact hsh _ _ rfl) t3 (fun b_1 => ?_)
      refine j_iconst dX10_isWord_4 ?_
      refine j_icmp_ne (tgt := 19) dX10_isWord_5 rfl (by first | omega | (split <;> omega)) (by first | omega | (split <;> omega)) (fun c_5 => by exact absurd e c_5) (fun c_5 => ?_)
      refine j_aload_n dX10_isWord_8 rfl ?_
      refine r_getIE dX10_isWord_9 flX10_43 (by first | assumption | exact hsh _ _ rfl) t5 (fun b_9 => ?_)
      refine j_aload_n dX10_isWord_12 rfl ?_
      refine r_cx0I dX10_isWord_13 cvX10_59 ht (Nat.le_of_ble_eq_true rfl) sL ?_
      refine j_icmp_eq (tgt := 21) dX10_isWord_16 rfl (by first | omega | (split <;> omega)) (by first | omega | (split <;> omega)) (fun c_16 => ?_) (fun c_16 => by exact absurd e2 c_16)
      refine j_iconst dX10_isWord_21 ?_
      refine j_istore_n dX10_isWord_22 (by decide) ?_
      exact loop (jzBy.getD t []).length 0 (by omega) (fun j hj => by omega)
    · rw [if_neg (fun x => e2 x.2.1)]
      refine j_aload_n dX10_isWord_0 rfl ?_
      refine r_getIE dX10_isWord_1 flX10_49 (by first | assumption | exact hsh _ _ rfl) t3 (fun b_1 => ?_)
      refine j_iconst dX10_isWord_4 ?_
      refine j_icmp_ne (tgt := 19) dX10_isWord_5 rfl (by first | omega | (split <;> omega)) (by first | omega | (split <;> omega)) (fun c_5 => by exact absurd e c_5) (fun c_5 => ?_)
      refine j_aload_n dX10_isWord_8 rfl ?_
      refine r_getIE dX10_isWord_9 flX10_43 (by first | assumption | exact hsh _ _ rfl) t5 (fun b_9 => ?_)
      refine j_aload_n dX10_isWord_12 rfl ?_
      refine r_cx0I dX10_isWord_13 cvX10_59 ht (Nat.le_of_ble_eq_true rfl) sL ?_
      refine j_icmp_eq (tgt := 21) dX10_isWord_16 rfl (by first | omega | (split <;> omega)) (by first | omega | (split <;> omega)) (fun c_16 => by exact absurd c_16 e2) (fun c_16 => ?_)
      refine j_iconst dX10_isWord_19 ?_
      refine j_zret dX10_isWord_20 rfl (by omega) ?_
      exact rI_of rfl rfl
  · rw [if_neg (fun x => e x.1)]
    refine j_aload_n dX10_isWord_0 rfl ?_
    refine r_getIE dX10_isWord_1 flX10_49 (by first | assumption | exact hsh _ _ rfl) t3 (fun b_1 => ?_)
    refine j_iconst dX10_isWord_4 ?_
    refine j_icmp_ne (tgt := 19) dX10_isWord_5 rfl (by first | omega | (split <;> omega)) (by first | omega | (split <;> omega)) (fun c_5 => ?_) (fun c_5 => by exact absurd (Classical.not_not.1 c_5) e)
    refine j_iconst dX10_isWord_19 ?_
    refine j_zret dX10_isWord_20 rfl (by omega) ?_
    exact rI_of rfl rfl
theorem st_takesWord1 (hsh : ShOK sh) (hfx : FxOK F) (hT : Tx I B n q) {t : Nat} (ht : t < 33) (h : vWd B n q t) : jS G (d + 5) mX10_takesWord [jR (some 154), jX (t + 1)] (sh, I, F) 0 0 (rEI 1 sh F (fun J => Tx J B n (tkN B n q) ∧ Fr1 154 I J)) := by
  have sw := st_isWord (G := G) (d := d) (F := F) hsh hfx hT ht
  rw [if_pos h] at sw
  refine jS_go [some (jR (some 154)), some (jX (t + 1))] (by decide +kernel) rfl (by simp [jone]) (Nat.le_of_ble_eq_true rfl) rfl (fun hok => ?_)
  refine j_aload_n dX10_takesWord_0 rfl ?_
  refine j_aload_n dX10_takesWord_1 rfl ?_
  refine r_cv1I dX10_takesWord_2 cvX10_69 (by decide) (by first | assumption | exact hsh _ _ rfl) (Nat.le_of_ble_eq_true rfl) (Nat.le_of_eq (Nat.zero_add _)) (Nat.le_of_eq (Nat.zero_add _)) (sw) ?_
  refine j_if_ne (tgt := 10) dX10_takesWord_5 rfl (by first | omega | (split <;> omega)) (fun c_5 => ?_) (fun c_5 => by exact absurd c_5 (by decide))
  refine j_aload_n dX10_takesWord_10 rfl ?_
  refine r_cv0EV dX10_takesWord_11 cvX10_37 (by decide) (by first | assumption | exact hsh _ _ rfl) (Nat.le_of_ble_eq_true rfl) (Nat.le_of_eq (Nat.zero_add _)) (Nat.le_of_eq (Nat.zero_add _)) (st_next hsh hfx hT) (fun J hJ => ?_)
  refine j_iconst dX10_takesWord_14 ?_
  refine j_zret dX10_takesWord_15 rfl (by omega) ?_
  exact rEI_of rfl hJ
theorem st_takesWord0 (hsh : ShOK sh) (hfx : FxOK F) (hT : Tx I B n q) {t : Nat} (ht : t < 33) (h : ¬ vWd B n q t) : jS G (d + 5) mX10_takesWord [jR (some 154), jX (t + 1)] (sh, I, F) 0 0 (rI 0 (sh, I, F)) := by
  have sw := st_isWord (G := G) (d := d) (F := F) hsh hfx hT ht
  rw [if_neg h] at sw
  refine jS_go [some (jR (some 154)), some (jX (t + 1))] (by decide +kernel) rfl (by simp [jone]) (Nat.le_of_ble_eq_true rfl) rfl (fun hok => ?_)
  refine j_aload_n dX10_takesWord_0 rfl ?_
  refine j_aload_n dX10_takesWord_1 rfl ?_
  refine r_cv1I dX10_takesWord_2 cvX10_69 (by decide) (by first | assumption | exact hsh _ _ rfl) (Nat.le_of_ble_eq_true rfl) (Nat.le_of_eq (Nat.zero_add _)) (Nat.le_of_eq (Nat.zero_add _)) (sw) ?_
  refine j_if_ne (tgt := 10) dX10_takesWord_5 rfl (by first | omega | (split <;> omega)) (fun c_5 => by exact absurd c_5 (by decide)) (fun c_5 => ?_)
  refine j_iconst dX10_takesWord_8 ?_
  refine j_zret dX10_takesWord_9 rfl (by omega) ?_
  exact rI_of rfl rfl
theorem st_takesSign1 (hsh : ShOK sh) (hfx : FxOK F) (hT : Tx I B n q) {c : Int} (hc : jin c) (h : vSg B n q c) : jS G (d + 5) mX10_takesSign [jR (some 154), jI c] (sh, I, F) 0 0 (rEI 1 sh F (fun J => Tx J B n (tkN B n q) ∧ Fr1 154 I J)) := by
  have sw := st_isSign (G := G) (d := d + 4) (F := F) hsh hfx hT hc
  rw [if_pos h] at sw
  refine jS_go [some (jR (some 154)), some (jI c)] (by decide +kernel) rfl (by simp [jone]) (Nat.le_of_ble_eq_true rfl) rfl (fun hok => ?_)
  refine j_aload_n dX10_takesSign_0 rfl ?_
  refine j_iload_n dX10_takesSign_1 rfl ?_
  refine r_cv1I dX10_takesSign_2 cvX10_73 (by decide) (by first | assumption | exact hsh _ _ rfl) (Nat.le_of_ble_eq_true rfl) (Nat.le_of_eq (Nat.zero_add _)) (Nat.le_of_eq (Nat.zero_add _)) (sw) ?_
  refine j_if_ne (tgt := 10) dX10_takesSign_5 rfl (by first | omega | (split <;> omega)) (fun c_5 => ?_) (fun c_5 => by exact absurd c_5 (by decide))
  refine j_aload_n dX10_takesSign_10 rfl ?_
  refine r_cv0EV dX10_takesSign_11 cvX10_37 (by decide) (by first | assumption | exact hsh _ _ rfl) (Nat.le_of_ble_eq_true rfl) (Nat.le_of_eq (Nat.zero_add _)) (Nat.le_of_eq (Nat.zero_add _)) (st_next hsh hfx hT) (fun J hJ => ?_)
  refine j_iconst dX10_takesSign_14 ?_
  refine j_zret dX10_takesSign_15 rfl (by omega) ?_
  exact rEI_of rfl hJ
theorem st_takesSign0 (hsh : ShOK sh) (hfx : FxOK F) (hT : Tx I B n q) {c : Int} (hc : jin c) (h : ¬ vSg B n q c) : jS G (d + 5) mX10_takesSign [jR (some 154), jI c] (sh, I, F) 0 0 (rI 0 (sh, I, F)) := by
  have sw := st_isSign (G := G) (d := d + 4) (F := F) hsh hfx hT hc
  rw [if_neg h] at sw
  refine jS_go [some (jR (some 154)), some (jI c)] (by decide +kernel) rfl (by simp [jone]) (Nat.le_of_ble_eq_true rfl) rfl (fun hok => ?_)
  refine j_aload_n dX10_takesSign_0 rfl ?_
  refine j_iload_n dX10_takesSign_1 rfl ?_
  refine r_cv1I dX10_takesSign_2 cvX10_73 (by decide) (by first | assumption | exact hsh _ _ rfl) (Nat.le_of_ble_eq_true rfl) (Nat.le_of_eq (Nat.zero_add _)) (Nat.le_of_eq (Nat.zero_add _)) (sw) ?_
  refine j_if_ne (tgt := 10) dX10_takesSign_5 rfl (by first | omega | (split <;> omega)) (fun c_5 => by exact absurd c_5 (by decide)) (fun c_5 => ?_)
  refine j_iconst dX10_takesSign_8 ?_
  refine j_zret dX10_takesSign_9 rfl (by omega) ?_
  exact rI_of rfl rfl
end
