/-! THE LAW FROM ITS FIRST ROW -/
theorem bk_Vg {I : Nat → Int → Int} {F : Nat → Int → Option Nat} {s : Nat} (v : Vg (s + 1) I F) : Vg (s + 170) (bkI I s) (bkF F s) := by
  have v1 := Vg_I (i := s) (k := 2) (z := -1) (Vg_F (i := s) (k := 0) (r := some (s + 1)) (Vg_m v (show s + 1 ≤ s + 3 by omega)) (by omega)) (by omega)
  have v2 := Vg_m (Vg_F (i := s) (k := 3) (r := some (s + 2)) (sn_State_Vg (s := s + 2) v1) (by omega)) (show s + 2 + 10 ≤ s + 13 by omega)
  have v3 := Vg_m (Vg_F (i := s) (k := 4) (r := some (s + 12)) (sn_State_Vg (s := s + 12) v2) (by omega)) (show s + 12 + 10 ≤ s + 23 by omega)
  have v4 := Vg_m (Vg_F (i := s) (k := 5) (r := some (s + 22)) (sn_State_Vg (s := s + 22) v3) (by omega)) (show s + 22 + 10 ≤ s + 33 by omega)
  have v5 := Vg_m (Vg_F (i := s) (k := 7) (r := some (s + 32)) (mm_Vg (s := s + 32) (j := 12) v4) (by omega)) (show s + 32 + 2 + 10 * 12 ≤ s + 155 by omega)
  have v6 := Vg_m (Vg_F (i := s) (k := 8) (r := some (s + 154)) (sn_Text_Vg (s := s + 154) v5) (by omega)) (show s + 154 + 2 ≤ s + 157 by omega)
  have v7 := Vg_m (Vg_F (i := s) (k := 9) (r := some (s + 156)) (sn_Read_Vg (s := s + 156) v6) (by omega)) (show s + 156 + 4 ≤ s + 161 by omega)
  have v8 := Vg_m (Vg_F (i := s) (k := 10) (r := some (s + 160)) (sn_Cour_Vg (s := s + 160) v7) (by omega)) (show s + 160 + 6 ≤ s + 167 by omega)
  exact Vg_F (i := s) (k := 11) (r := some (s + 166)) (sn_Debt_Vg (s := s + 166) v8) (by omega)
theorem v_00 : Vg 0 I0 F00 := fun _ _ _ => ⟨rfl, rfl⟩
theorem mo_Vg {I : Nat → Int → Int} {F : Nat → Int → Option Nat} {s : Nat} (v : Vg (s + 1) I F) : Vg (s + 14) (moI I s) (moF F s) := by
  intro a b ha
  have hb := v a b (by omega)
  refine ⟨?_, ?_⟩
  · unfold moI
    rw [jup_cell _ _ _ _ (by omega), jup_cell _ _ _ _ (by omega), jup_cell _ _ _ _ (by omega), jup_cell _ _ _ _ (by omega)]
    exact hb.1
  · unfold moF
    rw [jup_cell _ _ _ _ (by omega), jup_cell _ _ _ _ (by omega), jup_cell _ _ _ _ (by omega), jup_cell _ _ _ _ (by omega), jup_cell _ _ _ _ (by omega), jup_cell _ _ _ _ (by omega), jup_cell _ _ _ _ (by omega), jup_cell _ _ _ _ (by omega), jup_cell _ _ _ _ (by omega), jup_cell _ _ _ _ (by omega), jup_cell _ _ _ _ (by omega), jup_cell _ _ _ _ (by omega), jup_cell _ _ _ _ (by omega)]
    exact hb.2
theorem l_start {G : jzG} (hn : G.2.2.2.1 ≤ 3072) : jW G mL_law_ 42 (fun o _ => o = .inl (some (jI 1))) 0 [some (jX 0), none, none, none, none, none, none] [] ([], I0, F00) 2233 239634 := by
  have v1 : Vg 170 (bkI I0 0) (bkF F00 0) := bk_Vg (s := 0) (Vg_m v_00 (by omega))
  have v2 : Vg 171 (bkI I0 0) (bkF F00 0) := Vg_m v1 (by omega)
  have v3 : Vg 184 IN FN := mo_Vg (s := 170) v2
  have w1 : jW G mL_law_ 42 (fun o _ => o = .inl (some (jI 1))) 16 [some (jX 0), some (jR (some 0)), some (jR (some 170)), none, none, none, none] [] (shN2, IN, FN) 2049 220161 := by
    refine j_iconst (M := mL_law_) dL_law__16 ?_
    refine r_nar (M := mL_law_) (kd := 13) (t0 := 3) (ty := .long) (len := 1) (n := 184) 2048 220160 dL_law__17 (Or.inr (Or.inr ⟨rfl, rfl, rfl⟩)) rfl wr_long rfl (by decide) (by decide) (by decide) shN2_len v3 ?_
    refine j_astore_n (M := mL_law_) dL_law__19 (by decide) ?_
    refine j_iconst (M := mL_law_) dL_law__20 ?_
    refine j_istore (M := mL_law_) dL_law__21 (by decide) ?_
    exact l_loop (by omega) 512 0 0 (shN2 ++ [(13, 1)]) IN FN 2048 220160 (by omega) (by omega) IN_INV (by omega) (by omega) (by omega) (by omega) (by omega)
  have w2 : jW G mL_law_ 42 (fun o _ => o = .inl (some (jI 1))) 8 [some (jX 0), some (jR (some 0)), none, none, none, none, none] [] (shN, bkI I0 0, bkF F00 0) 2063 231395 := by
    refine r_nob (M := mL_law_) (ci := 9) (n := 170) 2062 231370 dL_law__8 (by decide) clL_118 wi_9 wn_9 (by decide) (by decide) shN_len v1 ?_
    refine j_dup (M := mL_law_) dL_law__11 trivial ?_
    refine j_callI (M := mL_law_) (d := 41) (As := []) (S := [jR (some 170)]) (rc' := 2049) (rs' := 220161) dL_law__12 ciL_120 rfl (Nat.le_of_ble_eq_true rfl) (by decide) (by decide) (sn_Model (s := 170) (len1 shN_len) (get_e shN_len) v2) ?_
    refine j_astore_n (M := mL_law_) dL_law__15 (by decide) ?_
    exact w1
  refine r_nob (M := mL_law_) (ci := 8) (n := 0) 2232 239622 dL_law__0 (by decide) clL_8 wi_8 wn_8 (by decide) (by decide) rfl v_00 ?_
  refine j_dup (M := mL_law_) dL_law__3 trivial ?_
  refine j_callI (M := mL_law_) (d := 41) (As := []) (S := [jR (some 0)]) (rc' := 2063) (rs' := 231395) dL_law__4 ciL_117 rfl (Nat.le_of_ble_eq_true rfl) (by decide) (by decide) (sn_Bank (d := 38) (s := 0) rfl rfl (Vg_m v_00 (by omega))) ?_
  refine j_astore_n (M := mL_law_) dL_law__7 (by decide) ?_
  exact w2
