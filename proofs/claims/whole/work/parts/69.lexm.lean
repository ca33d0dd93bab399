/-! THE MODEL READS A TEXT -/
abbrev sg8 (v : Int) : Int := if v < 128 then v else v - 256
/-- the model's point and begin -/
def Mt (I : Nat → Int → Int) (B : Int → Int) (n p b : Int) : Prop := I 170 11 = n ∧ I 170 10 = p ∧ I 170 12 = b ∧ (∀ k, 0 ≤ k → k < n → (0 ≤ B k ∧ B k ≤ 255) ∧ I 176 k = sg8 (B k)) ∧ (0 ≤ p ∧ p ≤ n) ∧ n ≤ 400
def FrX (I J : Nat → Int → Int) : Prop := (∀ a, a ≠ 170 → J a = I a) ∧ ∀ k, k ≠ 10 → k ≠ 12 → J 170 k = I 170 k
theorem FrX_0 {I : Nat → Int → Int} : FrX I I := ⟨fun _ _ => rfl, fun _ _ _ => rfl⟩
theorem FrX_tr {I J K : Nat → Int → Int} (h : FrX I J) (h2 : FrX J K) : FrX I K := ⟨fun a ha => (h2.1 a ha).trans (h.1 a ha), fun k h0 h1 => (h2.2 k h0 h1).trans (h.2 k h0 h1)⟩
theorem FrX_up {I J : Nat → Int → Int} {k v : Int} (h : FrX I J) (hk : k = 10 ∨ k = 12) : FrX I (jup J 170 k v) := ⟨fun a ha => by rw [jup_ne _ _ _ ha]; exact h.1 a ha, fun j h0 h1 => by rw [jup_row _ _ _ (by omega)]; exact h.2 j h0 h1⟩
theorem Mt_10 {I : Nat → Int → Int} {B : Int → Int} {n p b x : Int} (h : Mt I B n p b) (hx : 0 ≤ x ∧ x ≤ n) : Mt (jup I 170 10 x) B n x b := by
  obtain ⟨h1, h2, h3, h4, h5, h6⟩ := h
  exact ⟨by rw [jup_row _ _ _ (by decide)]; exact h1, jup_same _ _ _ _, by rw [jup_row _ _ _ (by decide)]; exact h3, fun k k0 k1 => by rw [jup_ne _ _ _ (by decide)]; exact h4 k k0 k1, hx, h6⟩
theorem Mt_12 {I : Nat → Int → Int} {B : Int → Int} {n p b x : Int} (h : Mt I B n p b) : Mt (jup I 170 12 x) B n p x := by
  obtain ⟨h1, h2, h3, h4, h5, h6⟩ := h
  exact ⟨by rw [jup_row _ _ _ (by decide)]; exact h1, by rw [jup_row _ _ _ (by decide)]; exact h2, jup_same _ _ _ _, fun k k0 k1 => by rw [jup_ne _ _ _ (by decide)]; exact h4 k k0 k1, h5, h6⟩
theorem lx_idem {B : Int → Int} {n lo hi p : Int} (h : p ≤ n) : lx B n lo hi (lx B n lo hi p) = lx B n lo hi p := lx_f (lx_end (n - p).toNat p (by omega))
theorem wd_iff {B : Int → Int} {n q : Int} {t : Nat} (ht : t < 33) (hq : q ≤ n) : (lx B n 97 122 q - q = txL t ∧ vCh B q t) ↔ vWd B n q t := by
  have h0 : ∀ t, t < 33 → 0 < (jzBy.getD t []).length := by decide +kernel
  have hl := h0 t ht
  have eL : txL t = ((jzBy.getD t []).length : Int) := rfl
  have hk := tkK_in (B := B) (n := n) (q := q)
  constructor
  · intro h
    have hL : q < n ∧ isL (B q) := by
      by_cases c : q < n ∧ 97 ≤ B q ∧ B q ≤ 122
      · exact c
      · have h1 := h.1
        rw [lx_f c] at h1
        omega
    have eE : tkE B n q = lx B n 97 122 q := by unfold tkE; rw [if_pos hL.1, if_pos hL.2]
    have eK : tkK B n q = 1 := by unfold tkK; rw [if_pos hL.1, if_pos hL.2]
    exact ⟨eK, by rw [eE]; exact h.1, h.2⟩
  · intro h
    have hL : q < n ∧ isL (B q) := by
      have := h.1
      rcases hk with k | ⟨kq, k | k | k⟩
      · omega
      · exact ⟨kq, k.2⟩
      · omega
      · omega
    have eE : tkE B n q = lx B n 97 122 q := by unfold tkE; rw [if_pos hL.1, if_pos hL.2]
    exact ⟨by rw [← eE]; exact h.2.1, h.2.2⟩
section
variable {G : jzG} {d : Nat} {sh : List (Nat × Nat)} {I : Nat → Int → Int} {F : Nat → Int → Option Nat} {B : Int → Int} {n p b : Int}
theorem mt_isAt (hsh : ShOK sh) (hfx : FxOK F) (hM : Mt I B n p b) {lo hi : Int} (h1 : 0 ≤ lo) (h2 : hi ≤ 127) (h3 : jin lo) (h4 : jin hi) : jS G d mX12_isAt [jR (some 170), jI lo, jI hi] (sh, I, F) 0 0 (rI (if p < n ∧ lo ≤ B p ∧ B p ≤ hi then 1 else 0) (sh, I, F)) := by
  obtain ⟨m1, m2, m3, m4, m5, m6⟩ := hM
  refine jS_go [some (jR (some 170)), some (jI lo), some (jI hi)] (by decide +kernel) rfl (by simp [jone]) (Nat.le_of_ble_eq_true rfl) rfl (fun hok => ?_)
  by_cases e : p < n
  · obtain ⟨bb, qb⟩ := m4 p m5.1 e
    by_cases c : lo ≤ B p ∧ B p ≤ hi
    · have es : sg8 (B p) = B p := if_pos (by omega)
      rw [es] at qb
      rw [if_pos ⟨e, c⟩]
      refine j_aload_n dX12_isAt_0 rfl ?_
      refine r_getIE dX12_isAt_1 flX12_86 (by first | assumption | exact hsh _ _ rfl) m2 (fun b_1 => ?_)
      refine j_aload_n dX12_isAt_4 rfl ?_
      refine r_getIE dX12_isAt_5 flX12_89 (by first | assumption | exact hsh _ _ rfl) m1 (fun b_5 => ?_)
      refine j_icmp_ge (tgt := 41) dX12_isAt_8 rfl (by first | omega | (split <;> omega)) (by first | omega | (split <;> omega)) (fun c_8 => by exact absurd c_8 (by omega)) (fun c_8 => ?_)
      refine j_aload_n dX12_isAt_11 rfl ?_
      refine r_getS dX12_isAt_12 flX12_29 (by first | assumption | exact hsh _ _ rfl) (fx_170_8 hfx) ?_
      refine j_aload_n dX12_isAt_15 rfl ?_
      refine r_getIE dX12_isAt_16 flX12_86 (by first | assumption | exact hsh _ _ rfl) m2 (fun b_16 => ?_)
      refine r_baloadE dX12_isAt_19 (by first | assumption | exact hsh _ _ rfl) (by first | omega | (split <;> omega)) (by first | omega | (split <;> omega)) qb (fun b_19 => ?_)
      refine j_iload_n dX12_isAt_20 rfl ?_
      refine j_icmp_lt (tgt := 41) dX12_isAt_21 rfl (by first | omega | (split <;> omega)) (by first | omega | (split <;> omega)) (fun c_21 => by exact absurd c_21 (by omega)) (fun c_21 => ?_)
      refine j_aload_n dX12_isAt_24 rfl ?_
      refine r_getS dX12_isAt_25 flX12_29 (by first | assumption | exact hsh _ _ rfl) (fx_170_8 hfx) ?_
      refine j_aload_n dX12_isAt_28 rfl ?_
      refine r_getIE dX12_isAt_29 flX12_86 (by first | assumption | exact hsh _ _ rfl) m2 (fun b_29 => ?_)
      refine r_baloadE dX12_isAt_32 (by first | assumption | exact hsh _ _ rfl) (by first | omega | (split <;> omega)) (by first | omega | (split <;> omega)) qb (fun b_32 => ?_)
      refine j_iload_n dX12_isAt_33 rfl ?_
      refine j_icmp_gt (tgt := 41) dX12_isAt_34 rfl (by first | omega | (split <;> omega)) (by first | omega | (split <;> omega)) (fun c_34 => by exact absurd c_34 (by omega)) (fun c_34 => ?_)
      refine j_iconst dX12_isAt_37 ?_
      refine j_goto (tgt := 42) dX12_isAt_38 rfl ?_
      refine j_zret dX12_isAt_42 rfl (by omega) ?_
      exact rI_of rfl rfl
    · rw [if_neg (fun x => c x.2)]
      have es : ¬ (lo ≤ sg8 (B p) ∧ sg8 (B p) ≤ hi) := by unfold sg8; split <;> omega
      refine j_aload_n dX12_isAt_0 rfl ?_
      refine r_getIE dX12_isAt_1 flX12_86 (by first | assumption | exact hsh _ _ rfl) m2 (fun b_1 => ?_)
      refine j_aload_n dX12_isAt_4 rfl ?_
      refine r_getIE dX12_isAt_5 flX12_89 (by first | assumption | exact hsh _ _ rfl) m1 (fun b_5 => ?_)
      refine j_icmp_ge (tgt := 41) dX12_isAt_8 rfl (by first | omega | (split <;> omega)) (by first | omega | (split <;> omega)) (fun c_8 => by exact absurd c_8 (by omega)) (fun c_8 => ?_)
      refine j_aload_n dX12_isAt_11 rfl ?_
      refine r_getS dX12_isAt_12 flX12_29 (by first | assumption | exact hsh _ _ rfl) (fx_170_8 hfx) ?_
      refine j_aload_n dX12_isAt_15 rfl ?_
      refine r_getIE dX12_isAt_16 flX12_86 (by first | assumption | exact hsh _ _ rfl) m2 (fun b_16 => ?_)
      refine r_baloadE dX12_isAt_19 (by first | assumption | exact hsh _ _ rfl) (by first | omega | (split <;> omega)) (by first | omega | (split <;> omega)) qb (fun b_19 => ?_)
      refine j_iload_n dX12_isAt_20 rfl ?_
      refine j_icmp_lt (tgt := 41) dX12_isAt_21 rfl (by first | omega | (split <;> omega)) (by first | omega | (split <;> omega)) (fun c_21 => ?_) (fun c_21 => ?_)
      · refine j_iconst dX12_isAt_41 ?_
        refine j_zret dX12_isAt_42 rfl (by omega) ?_
        exact rI_of rfl rfl
      · refine j_aload_n dX12_isAt_24 rfl ?_
        refine r_getS dX12_isAt_25 flX12_29 (by first | assumption | exact hsh _ _ rfl) (fx_170_8 hfx) ?_
        refine j_aload_n dX12_isAt_28 rfl ?_
        refine r_getIE dX12_isAt_29 flX12_86 (by first | assumption | exact hsh _ _ rfl) m2 (fun b_29 => ?_)
        refine r_baloadE dX12_isAt_32 (by first | assumption | exact hsh _ _ rfl) (by first | omega | (split <;> omega)) (by first | omega | (split <;> omega)) qb (fun b_32 => ?_)
        refine j_iload_n dX12_isAt_33 rfl ?_
        refine j_icmp_gt (tgt := 41) dX12_isAt_34 rfl (by first | omega | (split <;> omega)) (by first | omega | (split <;> omega)) (fun c_34 => ?_) (fun c_34 => by exact absurd ⟨by omega, by omega⟩ es)
        refine j_iconst dX12_isAt_41 ?_
        refine j_zret dX12_isAt_42 rfl (by omega) ?_
        exact rI_of rfl rfl
  · rw [if_neg (fun x => e x.1)]
    refine j_aload_n dX12_isAt_0 rfl ?_
    refine r_getIE dX12_isAt_1 flX12_86 (by first | assumption | exact hsh _ _ rfl) m2 (fun b_1 => ?_)
    refine j_aload_n dX12_isAt_4 rfl ?_
    refine r_getIE dX12_isAt_5 flX12_89 (by first | assumption | exact hsh _ _ rfl) m1 (fun b_5 => ?_)
    refine j_icmp_ge (tgt := 41) dX12_isAt_8 rfl (by first | omega | (split <;> omega)) (by first | omega | (split <;> omega)) (fun c_8 => ?_) (fun c_8 => by exact absurd (by omega) e)
    refine j_iconst dX12_isAt_41 ?_
    refine j_zret dX12_isAt_42 rfl (by omega) ?_
    exact rI_of rfl rfl
theorem mt_blanks (hsh : ShOK sh) (hfx : FxOK F) (hM : Mt I B n p b) : jS G (d + 1) mX12_blanks [jR (some 170)] (sh, I, F) 0 0 (rEV sh F (fun J => Mt J B n (lxB B n p) (lxB B n p) ∧ FrX I J)) := by
  refine jS_go [some (jR (some 170))] (by decide +kernel) rfl (by simp [jone]) (Nat.le_of_ble_eq_true rfl) rfl (fun hok => ?_)
  have key : ∀ (m : Nat) (r : Int) (J : Nat → Int → Int), r + m = n → lxB B n r = lxB B n p → Mt J B n r b → FrX I J → jW G mX12_blanks (d + 1) (rEV sh F (fun J => Mt J B n (lxB B n p) (lxB B n p) ∧ FrX I J)) 0 [some (jR (some 170))] [] (sh, J, F) 0 0 := by
    intro m
    induction m with
    | zero =>
      intro r J hr hlx hMJ hf
      have sa := mt_isAt (G := G) (d := d) (F := F) hsh hfx hMJ (lo := 32) (hi := 32) (by decide) (by decide) (by decide) (by decide)
      rw [if_neg (by omega)] at sa
      have er : lxB B n p = r := by rw [← hlx]; exact lx_f (by omega)
      have j2 := hMJ.2.1
      refine j_aload_n dX12_blanks_0 rfl ?_
      refine j_bipush dX12_blanks_1 (by decide) ?_
      refine j_bipush dX12_blanks_3 (by decide) ?_
      refine r_cv2I dX12_blanks_5 cvX12_92 (by decide) (by first | assumption | exact hsh _ _ rfl) (Nat.le_of_ble_eq_true rfl) (Nat.le_of_eq (Nat.zero_add _)) (Nat.le_of_eq (Nat.zero_add _)) (sa) ?_
      refine j_if_eq (tgt := 24) dX12_blanks_8 rfl (by first | omega | (split <;> omega)) (fun c_8 => ?_) (fun c_8 => by exact absurd c_8 (by decide))
      refine j_aload_n dX12_blanks_24 rfl ?_
      refine j_aload_n dX12_blanks_25 rfl ?_
      refine r_getIE dX12_blanks_26 flX12_86 (by first | assumption | exact hsh _ _ rfl) j2 (fun b_26 => ?_)
      refine r_putI dX12_blanks_29 flX12_96 rfl (by first | assumption | exact hsh _ _ rfl) (by first | omega | (split <;> omega)) (fun q => by cases q) ?_
      refine j_vret dX12_blanks_32 rfl ?_
      rw [er]
      exact rEV_of ⟨Mt_12 hMJ, FrX_up hf (Or.inr rfl)⟩
    | succ m ih =>
      intro r J hr hlx hMJ hf
      have sa := mt_isAt (G := G) (d := d) (F := F) hsh hfx hMJ (lo := 32) (hi := 32) (by decide) (by decide) (by decide) (by decide)
      have j2 := hMJ.2.1
      have j5 := hMJ.2.2.2.2.1
      have j6 := hMJ.2.2.2.2.2
      by_cases e : r < n ∧ 32 ≤ B r ∧ B r ≤ 32
      · rw [if_pos e] at sa
        refine j_aload_n dX12_blanks_0 rfl ?_
        refine j_bipush dX12_blanks_1 (by decide) ?_
        refine j_bipush dX12_blanks_3 (by decide) ?_
        refine r_cv2I dX12_blanks_5 cvX12_92 (by decide) (by first | assumption | exact hsh _ _ rfl) (Nat.le_of_ble_eq_true rfl) (Nat.le_of_eq (Nat.zero_add _)) (Nat.le_of_eq (Nat.zero_add _)) (sa) ?_
        refine j_if_eq (tgt := 24) dX12_blanks_8 rfl (by first | omega | (split <;> omega)) (fun c_8 => by exact absurd c_8 (by decide)) (fun c_8 => ?_)
        refine j_aload_n dX12_blanks_11 rfl ?_
        refine j_dup dX12_blanks_12 trivial ?_
        refine r_getIE dX12_blanks_13 flX12_86 (by first | assumption | exact hsh _ _ rfl) j2 (fun b_13 => ?_)
        refine j_iconst dX12_blanks_16 ?_
        refine j_iadd dX12_blanks_17 ?_
        refine r_putI dX12_blanks_18 flX12_86 rfl (by first | assumption | exact hsh _ _ rfl) (by first | omega | (split <;> omega)) (fun q => by cases q) ?_
        refine j_goto (tgt := 0) dX12_blanks_21 rfl ?_
        exact ih (r + 1) _ (by omega) (by rw [← hlx]; exact (lx_t e).symm) (Mt_10 hMJ (by omega)) (FrX_up hf (Or.inl rfl))
      · rw [if_neg e] at sa
        have er : lxB B n p = r := by rw [← hlx]; exact lx_f e
        refine j_aload_n dX12_blanks_0 rfl ?_
        refine j_bipush dX12_blanks_1 (by decide) ?_
        refine j_bipush dX12_blanks_3 (by decide) ?_
        refine r_cv2I dX12_blanks_5 cvX12_92 (by decide) (by first | assumption | exact hsh _ _ rfl) (Nat.le_of_ble_eq_true rfl) (Nat.le_of_eq (Nat.zero_add _)) (Nat.le_of_eq (Nat.zero_add _)) (sa) ?_
        refine j_if_eq (tgt := 24) dX12_blanks_8 rfl (by first | omega | (split <;> omega)) (fun c_8 => ?_) (fun c_8 => by exact absurd c_8 (by decide))
        refine j_aload_n dX12_blanks_24 rfl ?_
        refine j_aload_n dX12_blanks_25 rfl ?_
        refine r_getIE dX12_blanks_26 flX12_86 (by first | assumption | exact hsh _ _ rfl) j2 (fun b_26 => ?_)
        refine r_putI dX12_blanks_29 flX12_96 rfl (by first | assumption | exact hsh _ _ rfl) (by first | omega | (split <;> omega)) (fun q => by cases q) ?_
        refine j_vret dX12_blanks_32 rfl ?_
        rw [er]
        exact rEV_of ⟨Mt_12 hMJ, FrX_up hf (Or.inr rfl)⟩
  have h5 := hM.2.2.2.2.1
  exact key (n - p).toNat p I (by omega) rfl hM FrX_0
theorem mt_letters (hsh : ShOK sh) (hfx : FxOK F) (hM : Mt I B n p b) : jS G (d + 2) mX12_letters [jR (some 170)] (sh, I, F) 0 0 (rEV sh F (fun J => Mt J B n (lx B n 97 122 (lxB B n p)) (lxB B n p) ∧ FrX I J)) := by
  obtain ⟨q, hq⟩ : ∃ q, lxB B n p = q := ⟨_, rfl⟩
  have sb := mt_blanks (G := G) (d := d) (F := F) hsh hfx hM
  rw [hq] at sb ⊢
  have h5 := hM.2.2.2.2.1
  have hqi := lx_le (B := B) (n := n) (lo := 32) (hi := 32) (p := p) h5.2
  rw [show lx B n 32 32 p = q from hq] at hqi
  refine jS_go [some (jR (some 170))] (by decide +kernel) rfl (by simp [jone]) (Nat.le_of_ble_eq_true rfl) rfl (fun hok => ?_)
  have key : ∀ (m : Nat) (r : Int) (J : Nat → Int → Int), r + m = n → lx B n 97 122 r = lx B n 97 122 q → Mt J B n r q → FrX I J → jW G mX12_letters (d + 2) (rEV sh F (fun J => Mt J B n (lx B n 97 122 q) q ∧ FrX I J)) 4 [some (jR (some 170))] [] (sh, J, F) 0 0 := by
    intro m
    induction m with
    | zero =>
      intro r J hr hlx hMJ hf
      have sa := mt_isAt (G := G) (d := d + 1) (F := F) hsh hfx hMJ (lo := 97) (hi := 122) (by decide) (by decide) (by decide) (by decide)
      rw [if_neg (by omega)] at sa
      have er : lx B n 97 122 q = r := by rw [← hlx]; exact lx_f (by omega)
      refine j_aload_n dX12_letters_4 rfl ?_
      refine j_bipush dX12_letters_5 (by decide) ?_
      refine j_bipush dX12_letters_7 (by decide) ?_
      refine r_cv2I dX12_letters_9 cvX12_92 (by decide) (by first | assumption | exact hsh _ _ rfl) (Nat.le_of_ble_eq_true rfl) (Nat.le_of_eq (Nat.zero_add _)) (Nat.le_of_eq (Nat.zero_add _)) (sa) ?_
      refine j_if_eq (tgt := 28) dX12_letters_12 rfl (by first | omega | (split <;> omega)) (fun c_12 => ?_) (fun c_12 => by exact absurd c_12 (by decide))
      refine j_vret dX12_letters_28 rfl ?_
      rw [er]
      exact rEV_of ⟨hMJ, hf⟩
    | succ m ih =>
      intro r J hr hlx hMJ hf
      have sa := mt_isAt (G := G) (d := d + 1) (F := F) hsh hfx hMJ (lo := 97) (hi := 122) (by decide) (by decide) (by decide) (by decide)
      have j2 := hMJ.2.1
      have j5 := hMJ.2.2.2.2.1
      have j6 := hMJ.2.2.2.2.2
      by_cases e : r < n ∧ 97 ≤ B r ∧ B r ≤ 122
      · rw [if_pos e] at sa
        refine j_aload_n dX12_letters_4 rfl ?_
        refine j_bipush dX12_letters_5 (by decide) ?_
        refine j_bipush dX12_letters_7 (by decide) ?_
        refine r_cv2I dX12_letters_9 cvX12_92 (by decide) (by first | assumption | exact hsh _ _ rfl) (Nat.le_of_ble_eq_true rfl) (Nat.le_of_eq (Nat.zero_add _)) (Nat.le_of_eq (Nat.zero_add _)) (sa) ?_
        refine j_if_eq (tgt := 28) dX12_letters_12 rfl (by first | omega | (split <;> omega)) (fun c_12 => by exact absurd c_12 (by decide)) (fun c_12 => ?_)
        refine j_aload_n dX12_letters_15 rfl ?_
        refine j_dup dX12_letters_16 trivial ?_
        refine r_getIE dX12_letters_17 flX12_86 (by first | assumption | exact hsh _ _ rfl) j2 (fun b_17 => ?_)
        refine j_iconst dX12_letters_20 ?_
        refine j_iadd dX12_letters_21 ?_
        refine r_putI dX12_letters_22 flX12_86 rfl (by first | assumption | exact hsh _ _ rfl) (by first | omega | (split <;> omega)) (fun q => by cases q) ?_
        refine j_goto (tgt := 4) dX12_letters_25 rfl ?_
        exact ih (r + 1) _ (by omega) (by rw [← hlx]; exact (lx_t e).symm) (Mt_10 hMJ (by omega)) (FrX_up hf (Or.inl rfl))
      · rw [if_neg e] at sa
        have er : lx B n 97 122 q = r := by rw [← hlx]; exact lx_f e
        refine j_aload_n dX12_letters_4 rfl ?_
        refine j_bipush dX12_letters_5 (by decide) ?_
        refine j_bipush dX12_letters_7 (by decide) ?_
        refine r_cv2I dX12_letters_9 cvX12_92 (by decide) (by first | assumption | exact hsh _ _ rfl) (Nat.le_of_ble_eq_true rfl) (Nat.le_of_eq (Nat.zero_add _)) (Nat.le_of_eq (Nat.zero_add _)) (sa) ?_
        refine j_if_eq (tgt := 28) dX12_letters_12 rfl (by first | omega | (split <;> omega)) (fun c_12 => ?_) (fun c_12 => by exact absurd c_12 (by decide))
        refine j_vret dX12_letters_28 rfl ?_
        rw [er]
        exact rEV_of ⟨hMJ, hf⟩
  refine j_aload_n dX12_letters_0 rfl ?_
  refine r_cv0EV dX12_letters_1 cvX12_99 (by decide) (by first | assumption | exact hsh _ _ rfl) (Nat.le_of_ble_eq_true rfl) (Nat.le_of_eq (Nat.zero_add _)) (Nat.le_of_eq (Nat.zero_add _)) (sb) (fun J hJ => ?_)
  exact key (n - q).toNat q J (by omega) rfl hJ.1 hJ.2
theorem mt_isWord (hsh : ShOK sh) (hfx : FxOK F) (hM : Mt I B n p b) (hb : 0 ≤ b ∧ b ≤ p) {t : Nat} (ht : t < 33) : jS G (d + 4) mX12_isWord [jR (some 170), jX (t + 1)] (sh, I, F) 0 0 (rI (if p - b = txL t ∧ vCh B b t then 1 else 0) (sh, I, F)) := by
  obtain ⟨m1, m2, m3, m4, m5, m6⟩ := hM
  have hl := jzBy_len t ht
  have eL : txL t = ((jzBy.getD t []).length : Int) := rfl
  have sL := sj_length (G := G) (d := d + 2) (sh := sh) (I := I) (F := F) ht
  have hjL : jin (txL t) := by omega
  refine jS_go [some (jR (some 170)), some (jX (t + 1)), none, none] (by decide +kernel) rfl (by simp [jone]) (Nat.le_of_ble_eq_true rfl) rfl (fun hok => ?_)
  by_cases e : p - b = txL t
  · have loop : ∀ (m : Nat) (i : Nat), i + m = (jzBy.getD t []).length → (∀ j : Nat, j < i → B (b + (j : Int)) = (((jzBy.getD t []).getD j 0 : Nat) : Int)) → jW G mX12_isWord (d + 4) (rI (if p - b = txL t ∧ vCh B b t then 1 else 0) (sh, I, F)) 24 [some (jR (some 170)), some (jX (t + 1)), some (jI 1), some (jI (i : Int))] [] (sh, I, F) 0 0 := by
      intro m
      induction m with
      | zero =>
        intro i hi hj
        rw [if_pos ⟨e, fun j hj2 => hj j (by omega)⟩]
        refine j_iload_n dX12_isWord_24 rfl ?_
        refine j_if_eq (tgt := 67) dX12_isWord_25 rfl (by first | omega | (split <;> omega)) (fun c_25 => by exact absurd c_25 (by decide)) (fun c_25 => ?_)
        refine j_iload_n dX12_isWord_28 rfl ?_
        refine j_aload_n dX12_isWord_29 rfl ?_
        refine r_cx0I dX12_isWord_30 cvX12_102 ht (Nat.le_of_ble_eq_true rfl) sL ?_
        refine j_icmp_ge (tgt := 67) dX12_isWord_33 rfl (by first | omega | (split <;> omega)) (by first | omega | (split <;> omega)) (fun c_33 => ?_) (fun c_33 => by exact absurd (by omega) c_33)
        refine j_iload_n dX12_isWord_67 rfl ?_
        refine j_zret dX12_isWord_68 rfl (by omega) ?_
        exact rI_of rfl rfl
      | succ m ih =>
        intro i hi hj
        obtain ⟨bb, qb⟩ := m4 (b + (i : Int)) (by omega) (by omega)
        have sc := sj_charAt (G := G) (d := d) (sh := sh) (I := I) (F := F) ht (i := (i : Int)) (by omega)
        have ec : txC t (i : Int) = (((jzBy.getD t []).getD i 0 : Nat) : Int) := by show (((jzBy.getD t []).getD (i : Int).toNat 0 : Nat) : Int) = _; rw [show (i : Int).toNat = i by omega]
        rw [ec] at sc
        have hc := tx_ok t ht i (by omega)
        by_cases c : B (b + (i : Int)) = (((jzBy.getD t []).getD i 0 : Nat) : Int)
        · have es : sg8 (B (b + (i : Int))) = (((jzBy.getD t []).getD i 0 : Nat) : Int) := by rw [c]; exact if_pos (by omega)
          rw [es] at qb
          have ih2 := ih (i + 1) (by omega) (fun j hj2 => by
            by_cases c2 : j = i
            · subst c2; exact c
            · exact hj j (by omega))
          refine j_iload_n dX12_isWord_24 rfl ?_
          refine j_if_eq (tgt := 67) dX12_isWord_25 rfl (by first | omega | (split <;> omega)) (fun c_25 => by exact absurd c_25 (by decide)) (fun c_25 => ?_)
          refine j_iload_n dX12_isWord_28 rfl ?_
          refine j_aload_n dX12_isWord_29 rfl ?_
          refine r_cx0I dX12_isWord_30 cvX12_102 ht (Nat.le_of_ble_eq_true rfl) sL ?_
          refine j_icmp_ge (tgt := 67) dX12_isWord_33 rfl (by first | omega | (split <;> omega)) (by first | omega | (split <;> omega)) (fun c_33 => by exact absurd c_33 (by omega)) (fun c_33 => ?_)
          refine j_aload_n dX12_isWord_36 rfl ?_
          refine r_getS dX12_isWord_37 flX12_29 (by first | assumption | exact hsh _ _ rfl) (fx_170_8 hfx) ?_
          refine j_aload_n dX12_isWord_40 rfl ?_
          refine r_getIE dX12_isWord_41 flX12_96 (by first | assumption | exact hsh _ _ rfl) m3 (fun b_41 => ?_)
          refine j_iload_n dX12_isWord_44 rfl ?_
          refine j_iadd dX12_isWord_45 ?_
          refine r_baloadE dX12_isWord_46 (by first | assumption | exact hsh _ _ rfl) (by first | omega | (split <;> omega)) (by first | omega | (split <;> omega)) qb (fun b_46 => ?_)
          refine j_aload_n dX12_isWord_47 rfl ?_
          refine j_iload_n dX12_isWord_48 rfl ?_
          refine r_cx1I dX12_isWord_49 cvX12_107 ht (Nat.le_of_ble_eq_true rfl) sc ?_
          refine j_icmp_ne (tgt := 59) dX12_isWord_52 rfl (by first | omega | (split <;> omega)) (by first | omega | (split <;> omega)) (fun c_52 => by exact absurd rfl c_52) (fun c_52 => ?_)
          refine j_iconst dX12_isWord_55 ?_
          refine j_goto (tgt := 60) dX12_isWord_56 rfl ?_
          refine j_istore_n dX12_isWord_60 (by decide) ?_
          refine j_iinc dX12_isWord_61 rfl (by decide) ?_
          refine j_goto (tgt := 24) dX12_isWord_64 rfl ?_
          exact ih2
        · have es : ¬ sg8 (B (b + (i : Int))) = (((jzBy.getD t []).getD i 0 : Nat) : Int) := by unfold sg8; split <;> omega
          have jb : jin (sg8 (B (b + (i : Int)))) := by unfold sg8; split <;> omega
          rw [if_neg (fun x => c (x.2 i (by omega)))]
          refine j_iload_n dX12_isWord_24 rfl ?_
          refine j_if_eq (tgt := 67) dX12_isWord_25 rfl (by first | omega | (split <;> omega)) (fun c_25 => by exact absurd c_25 (by decide)) (fun c_25 => ?_)
          refine j_iload_n dX12_isWord_28 rfl ?_
          refine j_aload_n dX12_isWord_29 rfl ?_
          refine r_cx0I dX12_isWord_30 cvX12_102 ht (Nat.le_of_ble_eq_true rfl) sL ?_
          refine j_icmp_ge (tgt := 67) dX12_isWord_33 rfl (by first | omega | (split <;> omega)) (by first | omega | (split <;> omega)) (fun c_33 => by exact absurd c_33 (by omega)) (fun c_33 => ?_)
          refine j_aload_n dX12_isWord_36 rfl ?_
          refine r_getS dX12_isWord_37 flX12_29 (by first | assumption | exact hsh _ _ rfl) (fx_170_8 hfx) ?_
          refine j_aload_n dX12_isWord_40 rfl ?_
          refine r_getIE dX12_isWord_41 flX12_96 (by first | assumption | exact hsh _ _ rfl) m3 (fun b_41 => ?_)
          refine j_iload_n dX12_isWord_44 rfl ?_
          refine j_iadd dX12_isWord_45 ?_
          refine r_baloadE dX12_isWord_46 (by first | assumption | exact hsh _ _ rfl) (by first | omega | (split <;> omega)) (by first | omega | (split <;> omega)) qb (fun b_46 => ?_)
          refine j_aload_n dX12_isWord_47 rfl ?_
          refine j_iload_n dX12_isWord_48 rfl ?_
          refine r_cx1I dX12_isWord_49 cvX12_107 ht (Nat.le_of_ble_eq_true rfl) sc ?_
          refine j_icmp_ne (tgt := 59) dX12_isWord_52 rfl (by first | exact jb | omega) (by first | omega | (split <;> omega)) (fun c_52 => ?_) (fun c_52 => by exact absurd (Classical.not_not.1 c_52) es)
          refine j_iconst dX12_isWord_59 ?_
          refine j_istore_n dX12_isWord_60 (by decide) ?_
          refine j_iinc dX12_isWord_61 rfl (by decide) ?_
          refine j_goto (tgt := 24) dX12_isWord_64 rfl ?_
          skip
          refine j_iload_n dX12_isWord_24 rfl ?_
          refine j_if_eq (tgt := 67) dX12_isWord_25 rfl (by first | omega | (split <;> omega)) (fun c_25 => ?_) (fun c_25 => by exact absurd rfl c_25)
          refine j_iload_n dX12_isWord_67 rfl ?_
          refine j_zret dX12_isWord_68 rfl (by omega) ?_
          exact rI_of rfl rfl
    refine j_aload_n dX12_isWord_0 rfl ?_
    refine r_getIE dX12_isWord_1 flX12_86 (by first | assumption | exact hsh _ _ rfl) m2 (fun b_1 => ?_)
    refine j_aload_n dX12_isWord_4 rfl ?_
    refine r_getIE dX12_isWord_5 flX12_96 (by first | assumption | exact hsh _ _ rfl) m3 (fun b_5 => ?_)
    refine j_isub dX12_isWord_8 ?_
    refine j_aload_n dX12_isWord_9 rfl ?_
    refine r_cx0I dX12_isWord_10 cvX12_102 ht (Nat.le_of_ble_eq_true rfl) sL ?_
    refine j_icmp_ne (tgt := 20) dX12_isWord_13 rfl (by first | omega | (split <;> omega)) (by first | omega | (split <;> omega)) (fun c_13 => by exact absurd e c_13) (fun c_13 => ?_)
    refine j_iconst dX12_isWord_16 ?_
    refine j_goto (tgt := 21) dX12_isWord_17 rfl ?_
    refine j_istore_n dX12_isWord_21 (by decide) ?_
    refine j_iconst dX12_isWord_22 ?_
    refine j_istore_n dX12_isWord_23 (by decide) ?_
    exact loop (jzBy.getD t []).length 0 (by omega) (fun j hj => by omega)
  · rw [if_neg (fun x => e x.1)]
    refine j_aload_n dX12_isWord_0 rfl ?_
    refine r_getIE dX12_isWord_1 flX12_86 (by first | assumption | exact hsh _ _ rfl) m2 (fun b_1 => ?_)
    refine j_aload_n dX12_isWord_4 rfl ?_
    refine r_getIE dX12_isWord_5 flX12_96 (by first | assumption | exact hsh _ _ rfl) m3 (fun b_5 => ?_)
    refine j_isub dX12_isWord_8 ?_
    refine j_aload_n dX12_isWord_9 rfl ?_
    refine r_cx0I dX12_isWord_10 cvX12_102 ht (Nat.le_of_ble_eq_true rfl) sL ?_
    refine j_icmp_ne (tgt := 20) dX12_isWord_13 rfl (by first | omega | (split <;> omega)) (by first | omega | (split <;> omega)) (fun c_13 => ?_) (fun c_13 => by exact absurd (Classical.not_not.1 c_13) e)
    refine j_iconst dX12_isWord_20 ?_
    refine j_istore_n dX12_isWord_21 (by decide) ?_
    refine j_iconst dX12_isWord_22 ?_
    refine j_istore_n dX12_isWord_23 (by decide) ?_
    refine j_iload_n dX12_isWord_24 rfl ?_
    refine j_if_eq (tgt := 67) dX12_isWord_25 rfl (by first | omega | (split <;> omega)) (fun c_25 => ?_) (fun c_25 => by exact absurd rfl c_25)
    refine j_iload_n dX12_isWord_67 rfl ?_
    refine j_zret dX12_isWord_68 rfl (by omega) ?_
    exact rI_of rfl rfl
/-- at the letters' end -/
theorem mt_isWordQ (hsh : ShOK sh) (hfx : FxOK F) {q : Int} (hM : Mt I B n (lx B n 97 122 q) q) (hq : 0 ≤ q ∧ q ≤ n) {t : Nat} (ht : t < 33) : jS G (d + 4) mX12_isWord [jR (some 170), jX (t + 1)] (sh, I, F) 0 0 (rI (if vWd B n q t then 1 else 0) (sh, I, F)) := by
  have hl := lx_le (B := B) (n := n) (lo := 97) (hi := 122) (p := q) hq.2
  have := mt_isWord (G := G) (d := d) (F := F) hsh hfx hM ⟨hq.1, hl.1⟩ ht
  rw [show (if lx B n 97 122 q - q = txL t ∧ vCh B q t then (1 : Int) else 0) = if vWd B n q t then 1 else 0 by
    by_cases c : vWd B n q t
    · rw [if_pos c, if_pos ((wd_iff ht hq.2).2 c)]
    · rw [if_neg c, if_neg (fun x => c ((wd_iff ht hq.2).1 x))]] at this
  exact this
theorem mt_passes1 (hsh : ShOK sh) (hfx : FxOK F) (hM : Mt I B n p b) {t : Nat} (ht : t < 33) (h : vWd B n (lxB B n p) t) : jS G (d + 5) mX12_passes [jR (some 170), jX (t + 1)] (sh, I, F) 0 0 (rEI 1 sh F (fun J => Mt J B n (tkE B n (lxB B n p)) (lxB B n p) ∧ FrX I J)) := by
  have h5 := hM.2.2.2.2.1
  have hqi := lx_le (B := B) (n := n) (lo := 32) (hi := 32) (p := p) h5.2
  have sl := mt_letters (G := G) (d := d + 2) (F := F) hsh hfx hM
  have eE : tkE B n (lxB B n p) = lx B n 97 122 (lxB B n p) := by
    have h1 : lx B n 97 122 (lxB B n p) - lxB B n p = txL t := ((wd_iff ht hqi.2).2 h).1
    have h2 : tkE B n (lxB B n p) - lxB B n p = txL t := h.2.1
    omega
  refine jS_go [some (jR (some 170)), some (jX (t + 1))] (by decide +kernel) rfl (by simp [jone]) (Nat.le_of_ble_eq_true rfl) rfl (fun hok => ?_)
  refine j_aload_n dX12_passes_0 rfl ?_
  refine r_cv0EV dX12_passes_1 cvX12_111 (by decide) (by first | assumption | exact hsh _ _ rfl) (Nat.le_of_ble_eq_true rfl) (Nat.le_of_eq (Nat.zero_add _)) (Nat.le_of_eq (Nat.zero_add _)) (sl) (fun J hJ => ?_)
  have sw := mt_isWordQ (G := G) (d := d) (F := F) hsh hfx hJ.1 ⟨Int.le_trans h5.1 hqi.1, hqi.2⟩ ht
  rw [if_pos h] at sw
  refine j_aload_n dX12_passes_4 rfl ?_
  refine j_aload_n dX12_passes_5 rfl ?_
  refine r_cv1I dX12_passes_6 cvX12_114 (by decide) (by first | assumption | exact hsh _ _ rfl) (Nat.le_of_ble_eq_true rfl) (Nat.le_of_eq (Nat.zero_add _)) (Nat.le_of_eq (Nat.zero_add _)) (sw) ?_
  refine j_if_eq (tgt := 14) dX12_passes_9 rfl (by first | omega | (split <;> omega)) (fun c_9 => by exact absurd c_9 (by decide)) (fun c_9 => ?_)
  refine j_iconst dX12_passes_12 ?_
  refine j_zret dX12_passes_13 rfl (by omega) ?_
  rw [eE]
  exact rEI_of rfl hJ
theorem mt_passes0 (hsh : ShOK sh) (hfx : FxOK F) (hM : Mt I B n p b) {t : Nat} (ht : t < 33) (h : ¬ vWd B n (lxB B n p) t) : jS G (d + 5) mX12_passes [jR (some 170), jX (t + 1)] (sh, I, F) 0 0 (rEI 0 sh F (fun J => Mt J B n (lxB B n p) (lxB B n p) ∧ FrX I J)) := by
  have h5 := hM.2.2.2.2.1
  have hqi := lx_le (B := B) (n := n) (lo := 32) (hi := 32) (p := p) h5.2
  have sl := mt_letters (G := G) (d := d + 2) (F := F) hsh hfx hM
  have h6 := hM.2.2.2.2.2
  refine jS_go [some (jR (some 170)), some (jX (t + 1))] (by decide +kernel) rfl (by simp [jone]) (Nat.le_of_ble_eq_true rfl) rfl (fun hok => ?_)
  refine j_aload_n dX12_passes_0 rfl ?_
  refine r_cv0EV dX12_passes_1 cvX12_111 (by decide) (by first | assumption | exact hsh _ _ rfl) (Nat.le_of_ble_eq_true rfl) (Nat.le_of_eq (Nat.zero_add _)) (Nat.le_of_eq (Nat.zero_add _)) (sl) (fun J hJ => ?_)
  have sw := mt_isWordQ (G := G) (d := d) (F := F) hsh hfx hJ.1 ⟨Int.le_trans h5.1 hqi.1, hqi.2⟩ ht
  rw [if_neg h] at sw
  have hq9 : 0 ≤ lxB B n p ∧ lxB B n p ≤ n := ⟨Int.le_trans h5.1 hqi.1, hqi.2⟩
  have j3 := hJ.1.2.2.1
  refine j_aload_n dX12_passes_4 rfl ?_
  refine j_aload_n dX12_passes_5 rfl ?_
  refine r_cv1I dX12_passes_6 cvX12_114 (by decide) (by first | assumption | exact hsh _ _ rfl) (Nat.le_of_ble_eq_true rfl) (Nat.le_of_eq (Nat.zero_add _)) (Nat.le_of_eq (Nat.zero_add _)) (sw) ?_
  refine j_if_eq (tgt := 14) dX12_passes_9 rfl (by first | omega | (split <;> omega)) (fun c_9 => ?_) (fun c_9 => by exact absurd c_9 (by decide))
  refine j_aload_n dX12_passes_14 rfl ?_
  refine j_aload_n dX12_passes_15 rfl ?_
  refine r_getIE dX12_passes_16 flX12_96 (by first | assumption | exact hsh _ _ rfl) j3 (fun b_16 => ?_)
  refine r_putI dX12_passes_19 flX12_86 rfl (by first | assumption | exact hsh _ _ rfl) (by first | omega | (split <;> omega)) (fun q => by cases q) ?_
  refine j_iconst dX12_passes_22 ?_
  refine j_zret dX12_passes_23 rfl (by omega) ?_
  exact rEI_of rfl ⟨Mt_10 hJ.1 (by omega), FrX_up hJ.2 (Or.inl rfl)⟩
theorem sg_iff {q c : Int} (hc : 0 ≤ c ∧ c ≤ 127 ∧ ¬ isL c ∧ ¬ isD c) : vSg B n q c ↔ (q < n ∧ c ≤ B q ∧ B q ≤ c) := by
  have hk := tkK_in (B := B) (n := n) (q := q)
  constructor
  · intro h
    have := h.1
    have := h.2
    omega
  · intro h
    have e : B q = c := by omega
    rw [e] at hk
    refine ⟨?_, e⟩
    rcases hk with k | ⟨k, k | k | k⟩
    · omega
    · exact absurd k.2 hc.2.2.1
    · exact absurd k.2.2 hc.2.2.2
    · exact k.1
theorem mt_sign1 (hsh : ShOK sh) (hfx : FxOK F) (hM : Mt I B n p b) {c : Int} (hc : 0 ≤ c ∧ c ≤ 127 ∧ ¬ isL c ∧ ¬ isD c) (h : vSg B n (lxB B n p) c) : jS G (d + 2) mX12_sign [jR (some 170), jI c] (sh, I, F) 0 0 (rEI 1 sh F (fun J => Mt J B n (tkE B n (lxB B n p)) (lxB B n p) ∧ FrX I J)) := by
  have h5 := hM.2.2.2.2.1
  have h6 := hM.2.2.2.2.2
  have hqi := lx_le (B := B) (n := n) (lo := 32) (hi := 32) (p := p) h5.2
  have sb := mt_blanks (G := G) (d := d) (F := F) hsh hfx hM
  have h2 := (sg_iff hc).1 h
  obtain ⟨q, hq⟩ : ∃ q, lxB B n p = q := ⟨_, rfl⟩
  rw [hq] at sb h h2 ⊢
  rw [show lx B n 32 32 p = q from hq] at hqi
  have eB : B q = c := h.2
  have eE : tkE B n q = q + 1 := by unfold tkE; rw [if_pos h2.1, eB, if_neg hc.2.2.1, if_neg hc.2.2.2]
  refine jS_go [some (jR (some 170)), some (jI c)] (by decide +kernel) rfl (by simp [jone]) (Nat.le_of_ble_eq_true rfl) rfl (fun hok => ?_)
  refine j_aload_n dX12_sign_0 rfl ?_
  refine r_cv0EV dX12_sign_1 cvX12_99 (by decide) (by first | assumption | exact hsh _ _ rfl) (Nat.le_of_ble_eq_true rfl) (Nat.le_of_eq (Nat.zero_add _)) (Nat.le_of_eq (Nat.zero_add _)) (sb) (fun J hJ => ?_)
  have sa := mt_isAt (G := G) (d := d + 1) (F := F) hsh hfx hJ.1 (lo := c) (hi := c) hc.1 hc.2.1 (by omega) (by omega)
  rw [if_pos h2] at sa
  have j2 := hJ.1.2.1
  refine j_aload_n dX12_sign_4 rfl ?_
  refine j_iload_n dX12_sign_5 rfl ?_
  refine j_iload_n dX12_sign_6 rfl ?_
  refine r_cv2I dX12_sign_7 cvX12_92 (by decide) (by first | assumption | exact hsh _ _ rfl) (Nat.le_of_ble_eq_true rfl) (Nat.le_of_eq (Nat.zero_add _)) (Nat.le_of_eq (Nat.zero_add _)) (sa) ?_
  refine j_if_ne (tgt := 15) dX12_sign_10 rfl (by first | omega | (split <;> omega)) (fun c_10 => ?_) (fun c_10 => by exact absurd c_10 (by decide))
  refine j_aload_n dX12_sign_15 rfl ?_
  refine j_dup dX12_sign_16 trivial ?_
  refine r_getIE dX12_sign_17 flX12_86 (by first | assumption | exact hsh _ _ rfl) j2 (fun b_17 => ?_)
  refine j_iconst dX12_sign_20 ?_
  refine j_iadd dX12_sign_21 ?_
  refine r_putI dX12_sign_22 flX12_86 rfl (by first | assumption | exact hsh _ _ rfl) (by first | omega | (split <;> omega)) (fun q => by cases q) ?_
  refine j_iconst dX12_sign_25 ?_
  refine j_zret dX12_sign_26 rfl (by omega) ?_
  rw [eE]
  exact rEI_of rfl ⟨Mt_10 hJ.1 (by omega), FrX_up hJ.2 (Or.inl rfl)⟩
theorem mt_sign0 (hsh : ShOK sh) (hfx : FxOK F) (hM : Mt I B n p b) {c : Int} (hc : 0 ≤ c ∧ c ≤ 127 ∧ ¬ isL c ∧ ¬ isD c) (h : ¬ vSg B n (lxB B n p) c) : jS G (d + 2) mX12_sign [jR (some 170), jI c] (sh, I, F) 0 0 (rEI 0 sh F (fun J => Mt J B n (lxB B n p) (lxB B n p) ∧ FrX I J)) := by
  have sb := mt_blanks (G := G) (d := d) (F := F) hsh hfx hM
  have h2 : ¬ (lxB B n p < n ∧ c ≤ B (lxB B n p) ∧ B (lxB B n p) ≤ c) := fun x => h ((sg_iff hc).2 x)
  refine jS_go [some (jR (some 170)), some (jI c)] (by decide +kernel) rfl (by simp [jone]) (Nat.le_of_ble_eq_true rfl) rfl (fun hok => ?_)
  refine j_aload_n dX12_sign_0 rfl ?_
  refine r_cv0EV dX12_sign_1 cvX12_99 (by decide) (by first | assumption | exact hsh _ _ rfl) (Nat.le_of_ble_eq_true rfl) (Nat.le_of_eq (Nat.zero_add _)) (Nat.le_of_eq (Nat.zero_add _)) (sb) (fun J hJ => ?_)
  have sa := mt_isAt (G := G) (d := d + 1) (F := F) hsh hfx hJ.1 (lo := c) (hi := c) hc.1 hc.2.1 (by omega) (by omega)
  rw [if_neg h2] at sa
  refine j_aload_n dX12_sign_4 rfl ?_
  refine j_iload_n dX12_sign_5 rfl ?_
  refine j_iload_n dX12_sign_6 rfl ?_
  refine r_cv2I dX12_sign_7 cvX12_92 (by decide) (by first | assumption | exact hsh _ _ rfl) (Nat.le_of_ble_eq_true rfl) (Nat.le_of_eq (Nat.zero_add _)) (Nat.le_of_eq (Nat.zero_add _)) (sa) ?_
  refine j_if_ne (tgt := 15) dX12_sign_10 rfl (by first | omega | (split <;> omega)) (fun c_10 => by exact absurd c_10 (by decide)) (fun c_10 => ?_)
  refine j_iconst dX12_sign_13 ?_
  refine j_zret dX12_sign_14 rfl (by omega) ?_
  exact rEI_of rfl hJ
/-- a number, or none -/
abbrev vFg (B : Int → Int) (n q f lo hi : Int) : Int := if vNm B n q f lo hi then tkV B q (tkE B n q - q).toNat else -1
theorem mt_figures (hsh : ShOK sh) (hfx : FxOK F) (hM : Mt I B n p b) {lo hi f : Int} (hf : 1 ≤ f ∧ f ≤ 7) (h1 : 0 ≤ lo) (h3 : jin lo) (h4 : jin hi) : jS G (d + 2) mX12_figures [jR (some 170), jI lo, jI hi, jI f] (sh, I, F) 0 0 (rEI (vFg B n (lxB B n p) f lo hi) sh F (fun J => Mt J B n (if tkK B n (lxB B n p) = 2 then tkE B n (lxB B n p) else lxB B n p) (lxB B n p) ∧ FrX I J)) := by
  have h5 := hM.2.2.2.2.1
  have h6 := hM.2.2.2.2.2
  have hqi := lx_le (B := B) (n := n) (lo := 32) (hi := 32) (p := p) h5.2
  have sb := mt_blanks (G := G) (d := d) (F := F) hsh hfx hM
  obtain ⟨q, hq⟩ : ∃ q, lxB B n p = q := ⟨_, rfl⟩
  rw [hq] at sb ⊢
  rw [show lx B n 32 32 p = q from hq] at hqi
  have hk := tkK_in (B := B) (n := n) (q := q)
  refine jS_go [some (jR (some 170)), some (jI lo), some (jI hi), some (jI f), none] (by decide +kernel) rfl (by simp [jone]) (Nat.le_of_ble_eq_true rfl) rfl (fun hok => ?_)
  generalize hQ : rEI (vFg B n q f lo hi) sh F (fun J => Mt J B n (if tkK B n q = 2 then tkE B n q else q) q ∧ FrX I J) = Q9
  have key : ∀ (m : Nat) (r : Int) (J : Nat → Int → Int), r + m = n → q ≤ r → lx B n 48 57 r = lx B n 48 57 q → (∀ k, q ≤ k → k < r → isD (B k)) → Mt J B n r q → FrX I J → jW G mX12_figures (d + 2) Q9 7 [some (jR (some 170)), some (jI lo), some (jI hi), some (jI f), some (jI (tkV B q (min f (r - q)).toNat))] [] (sh, J, F) 0 0 := by
    -- where the figures end
    have fin : ∀ (r : Int) (J : Nat → Int → Int), q ≤ r → r ≤ n → ¬ (r < n ∧ 48 ≤ B r ∧ B r ≤ 57) → lx B n 48 57 r = lx B n 48 57 q → (∀ k, q ≤ k → k < r → isD (B k)) → Mt J B n r q → FrX I J → jW G mX12_figures (d + 2) Q9 7 [some (jR (some 170)), some (jI lo), some (jI hi), some (jI f), some (jI (tkV B q (min f (r - q)).toNat))] [] (sh, J, F) 0 0 := by
      intro r J hqr hrn hne hlx hal hMJ hf2
      have sa := mt_isAt (G := G) (d := d + 1) (F := F) hsh hfx hMJ (lo := 48) (hi := 57) (by decide) (by decide) (by decide) (by decide)
      rw [if_neg hne] at sa
      have j2 := hMJ.2.1
      have j3 := hMJ.2.2.1
      have er : lx B n 48 57 q = r := by rw [← hlx]; exact lx_f hne
      have hv := tkV_in (B := B) (q := q) (min f (r - q)).toNat (by omega) (fun i i0 i1 => hal (q + i) (by omega) (by omega))
      have jv : jin (tkV B q (min f (r - q)).toNat) := by omega
      by_cases e : r = q
      · have hD : ¬ (q < n ∧ isD (B q)) := by rw [← e]; exact hne
        have eK : ¬ tkK B n q = 2 := by rcases hk with k | ⟨k, k | k | k⟩ <;> omega
        have hv0 : vFg B n q f lo hi = -1 := if_neg (fun x => eK x.1)
        rw [hv0, if_neg eK] at hQ
        subst e
        refine j_aload_n dX12_figures_7 rfl ?_
        refine j_bipush dX12_figures_8 (by decide) ?_
        refine j_bipush dX12_figures_10 (by decide) ?_
        refine r_cv2I dX12_figures_12 cvX12_92 (by decide) (by first | assumption | exact hsh _ _ rfl) (Nat.le_of_ble_eq_true rfl) (Nat.le_of_eq (Nat.zero_add _)) (Nat.le_of_eq (Nat.zero_add _)) (sa) ?_
        refine j_if_eq (tgt := 69) dX12_figures_15 rfl (by first | omega | (split <;> omega)) (fun c_15 => ?_) (fun c_15 => by exact absurd c_15 (by decide))
        refine j_aload_n dX12_figures_69 rfl ?_
        refine r_getIE dX12_figures_70 flX12_86 (by first | assumption | exact hsh _ _ rfl) j2 (fun b_70 => ?_)
        refine j_aload_n dX12_figures_73 rfl ?_
        refine r_getIE dX12_figures_74 flX12_96 (by first | assumption | exact hsh _ _ rfl) j3 (fun b_74 => ?_)
        refine j_icmp_eq (tgt := 105) dX12_figures_77 rfl (by first | omega | (split <;> omega)) (by first | omega | (split <;> omega)) (fun c_77 => ?_) (fun c_77 => by exact absurd rfl c_77)
        refine j_iconst dX12_figures_105 ?_
        refine j_goto (tgt := 111) dX12_figures_106 rfl ?_
        refine j_iret dX12_figures_111 rfl ?_
        rw [← hQ]
        exact rEI_of rfl ⟨hMJ, hf2⟩
      · have hD := hal q (Int.le_refl _) (by omega)
        have hqn : q < n := by omega
        have hL : ¬ isL (B q) := by omega
        have eK : tkK B n q = 2 := by rcases hk with k | ⟨k, k | k | k⟩ <;> omega
        have eE : tkE B n q = r := by unfold tkE; rw [if_pos hqn, if_neg hL, if_pos hD, er]
        rw [if_pos eK, eE] at hQ
        by_cases c : r - q ≤ f
        · have e1 : (min f (r - q)).toNat = (r - q).toNat := by omega
          rw [e1] at hv jv ⊢
          by_cases c2 : lo ≤ tkV B q (r - q).toNat ∧ tkV B q (r - q).toNat ≤ hi
          · have hv0 : vFg B n q f lo hi = tkV B q (r - q).toNat := by unfold vFg; rw [if_pos ⟨eK, by rw [eE]; exact c, by rw [eE]; exact c2⟩, eE]
            rw [hv0] at hQ
            refine j_aload_n dX12_figures_7 rfl ?_
            refine j_bipush dX12_figures_8 (by decide) ?_
            refine j_bipush dX12_figures_10 (by decide) ?_
            refine r_cv2I dX12_figures_12 cvX12_92 (by decide) (by first | assumption | exact hsh _ _ rfl) (Nat.le_of_ble_eq_true rfl) (Nat.le_of_eq (Nat.zero_add _)) (Nat.le_of_eq (Nat.zero_add _)) (sa) ?_
            refine j_if_eq (tgt := 69) dX12_figures_15 rfl (by first | omega | (split <;> omega)) (fun c_15 => ?_) (fun c_15 => by exact absurd c_15 (by decide))
            refine j_aload_n dX12_figures_69 rfl ?_
            refine r_getIE dX12_figures_70 flX12_86 (by first | assumption | exact hsh _ _ rfl) j2 (fun b_70 => ?_)
            refine j_aload_n dX12_figures_73 rfl ?_
            refine r_getIE dX12_figures_74 flX12_96 (by first | assumption | exact hsh _ _ rfl) j3 (fun b_74 => ?_)
            refine j_icmp_eq (tgt := 105) dX12_figures_77 rfl (by first | omega | (split <;> omega)) (by first | omega | (split <;> omega)) (fun c_77 => by exact absurd c_77 e) (fun c_77 => ?_)
            refine j_aload_n dX12_figures_80 rfl ?_
            refine r_getIE dX12_figures_81 flX12_86 (by first | assumption | exact hsh _ _ rfl) j2 (fun b_81 => ?_)
            refine j_aload_n dX12_figures_84 rfl ?_
            refine r_getIE dX12_figures_85 flX12_96 (by first | assumption | exact hsh _ _ rfl) j3 (fun b_85 => ?_)
            refine j_isub dX12_figures_88 ?_
            refine j_iload_n dX12_figures_89 rfl ?_
            refine j_icmp_gt (tgt := 105) dX12_figures_90 rfl (by first | omega | (split <;> omega)) (by first | omega | (split <;> omega)) (fun c_90 => by exact absurd c_90 (by omega)) (fun c_90 => ?_)
            refine j_iload dX12_figures_93 rfl ?_
            refine j_iload_n dX12_figures_95 rfl ?_
            refine j_icmp_lt (tgt := 105) dX12_figures_96 rfl (by first | omega | (split <;> omega)) (by first | omega | (split <;> omega)) (fun c_96 => by exact absurd c_96 (by omega)) (fun c_96 => ?_)
            refine j_iload dX12_figures_99 rfl ?_
            refine j_iload_n dX12_figures_101 rfl ?_
            refine j_icmp_le (tgt := 109) dX12_figures_102 rfl (by first | omega | (split <;> omega)) (by first | omega | (split <;> omega)) (fun c_102 => ?_) (fun c_102 => by exact absurd (by omega) c_102)
            refine j_iload dX12_figures_109 rfl ?_
            refine j_iret dX12_figures_111 rfl ?_
            rw [← hQ]
            exact rEI_of rfl ⟨hMJ, hf2⟩
          · have hv0 : vFg B n q f lo hi = -1 := by unfold vFg; rw [if_neg (fun x => c2 (by rw [← eE]; exact x.2.2))]
            rw [hv0] at hQ
            refine j_aload_n dX12_figures_7 rfl ?_
            refine j_bipush dX12_figures_8 (by decide) ?_
            refine j_bipush dX12_figures_10 (by decide) ?_
            refine r_cv2I dX12_figures_12 cvX12_92 (by decide) (by first | assumption | exact hsh _ _ rfl) (Nat.le_of_ble_eq_true rfl) (Nat.le_of_eq (Nat.zero_add _)) (Nat.le_of_eq (Nat.zero_add _)) (sa) ?_
            refine j_if_eq (tgt := 69) dX12_figures_15 rfl (by first | omega | (split <;> omega)) (fun c_15 => ?_) (fun c_15 => by exact absurd c_15 (by decide))
            refine j_aload_n dX12_figures_69 rfl ?_
            refine r_getIE dX12_figures_70 flX12_86 (by first | assumption | exact hsh _ _ rfl) j2 (fun b_70 => ?_)
            refine j_aload_n dX12_figures_73 rfl ?_
            refine r_getIE dX12_figures_74 flX12_96 (by first | assumption | exact hsh _ _ rfl) j3 (fun b_74 => ?_)
            refine j_icmp_eq (tgt := 105) dX12_figures_77 rfl (by first | omega | (split <;> omega)) (by first | omega | (split <;> omega)) (fun c_77 => by exact absurd c_77 e) (fun c_77 => ?_)
            refine j_aload_n dX12_figures_80 rfl ?_
            refine r_getIE dX12_figures_81 flX12_86 (by first | assumption | exact hsh _ _ rfl) j2 (fun b_81 => ?_)
            refine j_aload_n dX12_figures_84 rfl ?_
            refine r_getIE dX12_figures_85 flX12_96 (by first | assumption | exact hsh _ _ rfl) j3 (fun b_85 => ?_)
            refine j_isub dX12_figures_88 ?_
            refine j_iload_n dX12_figures_89 rfl ?_
            refine j_icmp_gt (tgt := 105) dX12_figures_90 rfl (by first | omega | (split <;> omega)) (by first | omega | (split <;> omega)) (fun c_90 => by exact absurd c_90 (by omega)) (fun c_90 => ?_)
            refine j_iload dX12_figures_93 rfl ?_
            refine j_iload_n dX12_figures_95 rfl ?_
            refine j_icmp_lt (tgt := 105) dX12_figures_96 rfl (by first | omega | (split <;> omega)) (by first | omega | (split <;> omega)) (fun c_96 => ?_) (fun c_96 => ?_)
            · refine j_iconst dX12_figures_105 ?_
              refine j_goto (tgt := 111) dX12_figures_106 rfl ?_
              refine j_iret dX12_figures_111 rfl ?_
              rw [← hQ]
              exact rEI_of rfl ⟨hMJ, hf2⟩
            · refine j_iload dX12_figures_99 rfl ?_
              refine j_iload_n dX12_figures_101 rfl ?_
              refine j_icmp_le (tgt := 109) dX12_figures_102 rfl (by first | omega | (split <;> omega)) (by first | omega | (split <;> omega)) (fun c_102 => by exact absurd ⟨by omega, c_102⟩ c2) (fun c_102 => ?_)
              refine j_iconst dX12_figures_105 ?_
              refine j_goto (tgt := 111) dX12_figures_106 rfl ?_
              refine j_iret dX12_figures_111 rfl ?_
              rw [← hQ]
              exact rEI_of rfl ⟨hMJ, hf2⟩
        · have hv0 : vFg B n q f lo hi = -1 := by unfold vFg; rw [if_neg (fun x => c (by rw [← eE]; exact x.2.1))]
          rw [hv0] at hQ
          refine j_aload_n dX12_figures_7 rfl ?_
          refine j_bipush dX12_figures_8 (by decide) ?_
          refine j_bipush dX12_figures_10 (by decide) ?_
          refine r_cv2I dX12_figures_12 cvX12_92 (by decide) (by first | assumption | exact hsh _ _ rfl) (Nat.le_of_ble_eq_true rfl) (Nat.le_of_eq (Nat.zero_add _)) (Nat.le_of_eq (Nat.zero_add _)) (sa) ?_
          refine j_if_eq (tgt := 69) dX12_figures_15 rfl (by first | omega | (split <;> omega)) (fun c_15 => ?_) (fun c_15 => by exact absurd c_15 (by decide))
          refine j_aload_n dX12_figures_69 rfl ?_
          refine r_getIE dX12_figures_70 flX12_86 (by first | assumption | exact hsh _ _ rfl) j2 (fun b_70 => ?_)
          refine j_aload_n dX12_figures_73 rfl ?_
          refine r_getIE dX12_figures_74 flX12_96 (by first | assumption | exact hsh _ _ rfl) j3 (fun b_74 => ?_)
          refine j_icmp_eq (tgt := 105) dX12_figures_77 rfl (by first | omega | (split <;> omega)) (by first | omega | (split <;> omega)) (fun c_77 => by exact absurd c_77 e) (fun c_77 => ?_)
          refine j_aload_n dX12_figures_80 rfl ?_
          refine r_getIE dX12_figures_81 flX12_86 (by first | assumption | exact hsh _ _ rfl) j2 (fun b_81 => ?_)
          refine j_aload_n dX12_figures_84 rfl ?_
          refine r_getIE dX12_figures_85 flX12_96 (by first | assumption | exact hsh _ _ rfl) j3 (fun b_85 => ?_)
          refine j_isub dX12_figures_88 ?_
          refine j_iload_n dX12_figures_89 rfl ?_
          refine j_icmp_gt (tgt := 105) dX12_figures_90 rfl (by first | omega | (split <;> omega)) (by first | omega | (split <;> omega)) (fun c_90 => ?_) (fun c_90 => by exact absurd (by omega) c_90)
          refine j_iconst dX12_figures_105 ?_
          refine j_goto (tgt := 111) dX12_figures_106 rfl ?_
          refine j_iret dX12_figures_111 rfl ?_
          rw [← hQ]
          exact rEI_of rfl ⟨hMJ, hf2⟩
    intro m
    induction m with
    | zero =>
      intro r J hr hqr hlx hal hMJ hf2
      exact fin r J hqr (by omega) (by omega) hlx hal hMJ hf2
    | succ m ih =>
      intro r J hr hqr hlx hal hMJ hf2
      by_cases e : r < n ∧ 48 ≤ B r ∧ B r ≤ 57
      · have sa := mt_isAt (G := G) (d := d + 1) (F := F) hsh hfx hMJ (lo := 48) (hi := 57) (by decide) (by decide) (by decide) (by decide)
        rw [if_pos e] at sa
        have j2 := hMJ.2.1
        have j3 := hMJ.2.2.1
        have hv := tkV_in (B := B) (q := q) (min f (r - q)).toNat (by omega) (fun i i0 i1 => hal (q + i) (by omega) (by omega))
        obtain ⟨bb, qb⟩ := hMJ.2.2.2.1 r (by omega) e.1
        rw [show sg8 (B r) = B r from if_pos (by omega)] at qb
        have ih2 := ih (r + 1) (jup J 170 10 (r + 1)) (by omega) (by omega) (by rw [← hlx]; exact (lx_t e).symm) (fun k k0 k1 => by
          by_cases ck : k = r
          · subst ck; exact e.2
          · exact hal k k0 (by omega)) (Mt_10 hMJ (by omega)) (FrX_up hf2 (Or.inl rfl))
        by_cases c : r - q < f
        · have hs := tkV_s (B := B) (q := q) (i := r - q) (by omega)
          rw [show q + (r - q) = r by omega] at hs
          have e1 : (min f (r - q)).toNat = (r - q).toNat := by omega
          have e2 : (min f (r + 1 - q)).toNat = (r - q + 1).toNat := by omega
          rw [e1] at hv ⊢
          rw [e2, hs, show tkV B q (r - q).toNat * 10 + B r - 48 = 10 * tkV B q (r - q).toNat + B r - 48 by omega] at ih2
          refine j_aload_n dX12_figures_7 rfl ?_
          refine j_bipush dX12_figures_8 (by decide) ?_
          refine j_bipush dX12_figures_10 (by decide) ?_
          refine r_cv2I dX12_figures_12 cvX12_92 (by decide) (by first | assumption | exact hsh _ _ rfl) (Nat.le_of_ble_eq_true rfl) (Nat.le_of_eq (Nat.zero_add _)) (Nat.le_of_eq (Nat.zero_add _)) (sa) ?_
          refine j_if_eq (tgt := 69) dX12_figures_15 rfl (by first | omega | (split <;> omega)) (fun c_15 => by exact absurd c_15 (by decide)) (fun c_15 => ?_)
          refine j_aload_n dX12_figures_18 rfl ?_
          refine r_getIE dX12_figures_19 flX12_86 (by first | assumption | exact hsh _ _ rfl) j2 (fun b_19 => ?_)
          refine j_aload_n dX12_figures_22 rfl ?_
          refine r_getIE dX12_figures_23 flX12_96 (by first | assumption | exact hsh _ _ rfl) j3 (fun b_23 => ?_)
          refine j_isub dX12_figures_26 ?_
          refine j_iload_n dX12_figures_27 rfl ?_
          refine j_icmp_ge (tgt := 52) dX12_figures_28 rfl (by first | omega | (split <;> omega)) (by first | omega | (split <;> omega)) (fun c_28 => by exact absurd c_28 (by omega)) (fun c_28 => ?_)
          refine j_bipush dX12_figures_31 (by decide) ?_
          refine j_iload dX12_figures_33 rfl ?_
          refine j_imul dX12_figures_35 ?_
          refine j_aload_n dX12_figures_36 rfl ?_
          refine r_getS dX12_figures_37 flX12_29 (by first | assumption | exact hsh _ _ rfl) (fx_170_8 hfx) ?_
          refine j_aload_n dX12_figures_40 rfl ?_
          refine r_getIE dX12_figures_41 flX12_86 (by first | assumption | exact hsh _ _ rfl) j2 (fun b_41 => ?_)
          refine r_baloadE dX12_figures_44 (by first | assumption | exact hsh _ _ rfl) (by first | omega | (split <;> omega)) (by first | omega | (split <;> omega)) qb (fun b_44 => ?_)
          refine j_iadd dX12_figures_45 ?_
          refine j_bipush dX12_figures_46 (by decide) ?_
          refine j_isub dX12_figures_48 ?_
          refine j_goto (tgt := 54) dX12_figures_49 rfl ?_
          refine j_istore dX12_figures_54 (by decide) ?_
          refine j_aload_n dX12_figures_56 rfl ?_
          refine j_dup dX12_figures_57 trivial ?_
          refine r_getIE dX12_figures_58 flX12_86 (by first | assumption | exact hsh _ _ rfl) j2 (fun b_58 => ?_)
          refine j_iconst dX12_figures_61 ?_
          refine j_iadd dX12_figures_62 ?_
          refine r_putI dX12_figures_63 flX12_86 rfl (by first | assumption | exact hsh _ _ rfl) (by first | omega | (split <;> omega)) (fun q => by cases q) ?_
          refine j_goto (tgt := 7) dX12_figures_66 rfl ?_
          exact ih2
        · have e2 : (min f (r + 1 - q)).toNat = (min f (r - q)).toNat := by omega
          rw [e2] at ih2
          refine j_aload_n dX12_figures_7 rfl ?_
          refine j_bipush dX12_figures_8 (by decide) ?_
          refine j_bipush dX12_figures_10 (by decide) ?_
          refine r_cv2I dX12_figures_12 cvX12_92 (by decide) (by first | assumption | exact hsh _ _ rfl) (Nat.le_of_ble_eq_true rfl) (Nat.le_of_eq (Nat.zero_add _)) (Nat.le_of_eq (Nat.zero_add _)) (sa) ?_
          refine j_if_eq (tgt := 69) dX12_figures_15 rfl (by first | omega | (split <;> omega)) (fun c_15 => by exact absurd c_15 (by decide)) (fun c_15 => ?_)
          refine j_aload_n dX12_figures_18 rfl ?_
          refine r_getIE dX12_figures_19 flX12_86 (by first | assumption | exact hsh _ _ rfl) j2 (fun b_19 => ?_)
          refine j_aload_n dX12_figures_22 rfl ?_
          refine r_getIE dX12_figures_23 flX12_96 (by first | assumption | exact hsh _ _ rfl) j3 (fun b_23 => ?_)
          refine j_isub dX12_figures_26 ?_
          refine j_iload_n dX12_figures_27 rfl ?_
          refine j_icmp_ge (tgt := 52) dX12_figures_28 rfl (by first | omega | (split <;> omega)) (by first | omega | (split <;> omega)) (fun c_28 => ?_) (fun c_28 => by exact absurd (by omega) c_28)
          refine j_iload dX12_figures_52 rfl ?_
          refine j_istore dX12_figures_54 (by decide) ?_
          refine j_aload_n dX12_figures_56 rfl ?_
          refine j_dup dX12_figures_57 trivial ?_
          refine r_getIE dX12_figures_58 flX12_86 (by first | assumption | exact hsh _ _ rfl) j2 (fun b_58 => ?_)
          refine j_iconst dX12_figures_61 ?_
          refine j_iadd dX12_figures_62 ?_
          refine r_putI dX12_figures_63 flX12_86 rfl (by first | assumption | exact hsh _ _ rfl) (by first | omega | (split <;> omega)) (fun q => by cases q) ?_
          refine j_goto (tgt := 7) dX12_figures_66 rfl ?_
          exact ih2
      · exact fin r J hqr (by omega) e hlx hal hMJ hf2
  have k0 := fun J hM hf => key (n - q).toNat q J (by omega) (Int.le_refl _) rfl (fun k a b => by omega) hM hf
  rw [show tkV B q (min f (q - q)).toNat = 0 by rw [show (min f (q - q)).toNat = 0 by omega]; rfl] at k0
  refine j_aload_n dX12_figures_0 rfl ?_
  refine r_cv0EV dX12_figures_1 cvX12_99 (by decide) (by first | assumption | exact hsh _ _ rfl) (Nat.le_of_ble_eq_true rfl) (Nat.le_of_eq (Nat.zero_add _)) (Nat.le_of_eq (Nat.zero_add _)) (sb) (fun J hJ => ?_)
  refine j_iconst dX12_figures_4 ?_
  refine j_istore dX12_figures_5 (by decide) ?_
  exact k0 J hJ.1 hJ.2
theorem mt_number (hsh : ShOK sh) (hfx : FxOK F) (hM : Mt I B n p b) {lo hi : Int} (h1 : 0 ≤ lo) (h3 : jin lo) (h4 : jin hi) : jS G (d + 3) mX12_number [jR (some 170), jI lo, jI hi] (sh, I, F) 0 0 (rEI (vFg B n (lxB B n p) 5 lo hi) sh F (fun J => Mt J B n (if tkK B n (lxB B n p) = 2 then tkE B n (lxB B n p) else lxB B n p) (lxB B n p) ∧ FrX I J)) := by
  refine jS_go [some (jR (some 170)), some (jI lo), some (jI hi)] (by decide +kernel) rfl (by simp [jone]) (Nat.le_of_ble_eq_true rfl) rfl (fun hok => ?_)
  refine j_aload_n dX12_number_0 rfl ?_
  refine j_iload_n dX12_number_1 rfl ?_
  refine j_iload_n dX12_number_2 rfl ?_
  refine j_iconst dX12_number_3 ?_
  refine r_cv3EI dX12_number_4 cvX12_118 (by decide) (by first | assumption | exact hsh _ _ rfl) (Nat.le_of_ble_eq_true rfl) (Nat.le_of_eq (Nat.zero_add _)) (Nat.le_of_eq (Nat.zero_add _)) (mt_figures hsh hfx hM (f := 5) (by decide) h1 h3 h4) (fun J hJ => ?_)
  refine j_iret dX12_number_7 rfl ?_
  exact rEI_of rfl hJ
end
