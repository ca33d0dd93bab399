/-! NEW OBJECTS -/
theorem ciL_117 : jCI RL 117 0 mX11_init := ⟨lw_in 130 (by decide +kernel) (by decide +kernel), lw_in 131 (by decide +kernel) (by decide +kernel), wn_8, lw_in 132 (by decide +kernel) (by decide +kernel), rfl, by decide +kernel, rfl, by decide, rfl⟩
theorem cnX11_19 : jCN RX11 19 0 mX9_init "PainBank" := ⟨List.mem_of_getElem? (i := 138) (by decide +kernel), lw_in 139 (by decide +kernel) (by decide +kernel), wn_6, lw_in 140 (by decide +kernel) (by decide +kernel), rfl, by decide +kernel, rfl, by decide, rfl⟩
theorem cnX9_45 : jCN RX9 45 0 mX7_init "PainBank" := ⟨List.mem_of_getElem? (i := 144) (by decide +kernel), lw_in 145 (by decide +kernel) (by decide +kernel), wn_4, lw_in 146 (by decide +kernel) (by decide +kernel), rfl, by decide +kernel, rfl, by decide, rfl⟩
theorem ciX11_32 : jCI RX11 32 0 mX8_init := ⟨lw_in 280 (by decide +kernel) (by decide +kernel), lw_in 281 (by decide +kernel) (by decide +kernel), wn_5, lw_in 282 (by decide +kernel) (by decide +kernel), rfl, by decide +kernel, rfl, by decide, rfl⟩
theorem cnX8_17 : jCN RX8 17 0 mX9_init "PainBank" := ⟨List.mem_of_getElem? (i := 286) (by decide +kernel), lw_in 139 (by decide +kernel) (by decide +kernel), wn_6, lw_in 140 (by decide +kernel) (by decide +kernel), rfl, by decide +kernel, rfl, by decide, rfl⟩
theorem cnX11_39 : jCN RX11 39 0 mX10_init "PainBank" := ⟨List.mem_of_getElem? (i := 300) (by decide +kernel), lw_in 301 (by decide +kernel) (by decide +kernel), wn_7, lw_in 302 (by decide +kernel) (by decide +kernel), rfl, by decide +kernel, rfl, by decide, rfl⟩
theorem cnX11_46 : jCN RX11 46 0 mX6_init "PainBank" := ⟨List.mem_of_getElem? (i := 332) (by decide +kernel), lw_in 333 (by decide +kernel) (by decide +kernel), wn_3, lw_in 334 (by decide +kernel) (by decide +kernel), rfl, by decide +kernel, rfl, by decide, rfl⟩
theorem cnX11_53 : jCN RX11 53 0 mX2_init "PainBank" := ⟨List.mem_of_getElem? (i := 357) (by decide +kernel), lw_in 358 (by decide +kernel) (by decide +kernel), wn_0, lw_in 359 (by decide +kernel) (by decide +kernel), rfl, by decide +kernel, rfl, by decide, rfl⟩
theorem cnX11_60 : jCN RX11 60 0 mX4_init "PainBank" := ⟨List.mem_of_getElem? (i := 398) (by decide +kernel), lw_in 399 (by decide +kernel) (by decide +kernel), wn_1, lw_in 400 (by decide +kernel) (by decide +kernel), rfl, by decide +kernel, rfl, by decide, rfl⟩
theorem ciL_120 : jCI RL 120 0 mX12_init := ⟨lw_in 1402 (by decide +kernel) (by decide +kernel), lw_in 1403 (by decide +kernel) (by decide +kernel), wn_9, lw_in 1404 (by decide +kernel) (by decide +kernel), rfl, by decide +kernel, rfl, by decide, rfl⟩
/-- from n on nothing is there -/
def Vg (n : Nat) (I : Nat → Int → Int) (F : Nat → Int → Option Nat) : Prop := ∀ (a : Nat) (k : Int), n ≤ a → I a k = 0 ∧ F a k = none
theorem Vg_m {n m : Nat} {I : Nat → Int → Int} {F : Nat → Int → Option Nat} (h : Vg n I F) (hm : n ≤ m) : Vg m I F := fun a k ha => h a k (Nat.le_trans hm ha)
theorem Vg_F {n i : Nat} {k : Int} {r : Option Nat} {I : Nat → Int → Int} {F : Nat → Int → Option Nat} (h : Vg n I F) (hi : i < n) : Vg n I (jup F i k r) := fun a b ha => ⟨(h a b ha).1, by rw [jup_cell F k b r (by omega)]; exact (h a b ha).2⟩
theorem Vg_I {n i : Nat} {k z : Int} {I : Nat → Int → Int} {F : Nat → Int → Option Nat} (h : Vg n I F) (hi : i < n) : Vg n (jup I i k z) F := fun a b ha => ⟨by rw [jup_cell I k b z (by omega)]; exact (h a b ha).1, (h a b ha).2⟩
theorem Vg_n {n : Nat} {I : Nat → Int → Int} {F : Nat → Int → Option Nat} (h : Vg n I F) : jnw I n 0 = I ∧ jnw F n none = F := by
  refine ⟨funext fun a => funext fun b => ?_, funext fun a => funext fun b => ?_⟩
  · by_cases e : a = n
    · subst e; rw [jnw_same]; exact ((h a b (Nat.le_refl _)).1).symm
    · rw [jnw_ne _ _ _ e]
  · by_cases e : a = n
    · subst e; rw [jnw_same]; exact ((h a b (Nat.le_refl _)).2).symm
    · rw [jnw_ne _ _ _ e]
theorem len1 {sh : List (Nat × Nat)} {n : Nat} {x : Nat × Nat} (h : sh.length = n) : (sh ++ [x]).length = n + 1 := by rw [List.length_append, h]; rfl
theorem get_e {sh : List (Nat × Nat)} {n : Nat} {x : Nat × Nat} (h : sh.length = n) : (sh ++ [x])[n]? = some x := by rw [← h]; exact get_end
section
variable {G : jzG} {M : jzM} {d pc rc rs : Nat} {Q : jzO → jzH → Prop} {L : List (Option jzV)} {S : List jzV} {sh : List (Nat × Nat)} {I : Nat → Int → Int} {F : Nat → Int → Option Nat} {s : Nat}
theorem r_nar {kd t0 : Nat} {ty : FieldType} {atype : ArrayType} {z : Int} {len n : Nat} (rc' rs' : Nat) (hd : decode M.2.1 pc = .ok (.newarray atype, 2)) (hk : (kd = 10 ∧ t0 = 0 ∧ ty = .byte) ∨ (kd = 11 ∧ t0 = 1 ∧ ty = .int) ∨ (kd = 13 ∧ t0 = 3 ∧ ty = .long)) (hty : newarray.typeOf atype = ty) (w1 : Cond.arrayClass ty ∈ lw_good) (hz : z = (len : Int)) (hl : len < 60000000) (h1 : rc' + 1 ≤ rc) (h2 : rs' + len ≤ rs) (hn : sh.length = n) (hv : Vg n I F) (k : jW G M d Q (pc + 2) L (jR (some n) :: S) (sh ++ [(kd, len)], I, F) rc' rs') : jW G M d Q pc L (jI z :: S) (sh, I, F) rc rs := by
  refine j_less h1 h2 (j_newarr hd hk hty w1 hz hl ?_)
  show jW G M d Q (pc + 2) L (jR (some sh.length) :: S) (sh ++ [(kd, len)], jnw I sh.length 0, jnw F sh.length none) rc' rs'
  rw [hn, (Vg_n hv).1, (Vg_n hv).2]
  exact k
theorem r_nob {idx ci n : Nat} (rc' rs' : Nat) (hd : decode M.2.1 pc = .ok (.new idx, 3)) (hc1 : ci < 10) (w1 : Cond.classLink M.1.cls idx (jzCn ci) ∈ lw_good) (w2 : Cond.instantiable (jzCn ci) (jzN ci) ∈ lw_good) (w3 : Cond.initialized (jzCn ci) ∈ lw_good) (h1 : rc' + 1 ≤ rc) (h2 : rs' + jzN ci ≤ rs) (hn : sh.length = n) (hv : Vg n I F) (k : jW G M d Q (pc + 3) L (jR (some n) :: S) (sh ++ [(ci, 0)], I, F) rc' rs') : jW G M d Q pc L S (sh, I, F) rc rs := by
  refine j_less h1 h2 (j_new hd hc1 w1 w2 w3 ?_)
  show jW G M d Q (pc + 3) L (jR (some sh.length) :: S) (sh ++ [(ci, 0)], jnw I sh.length 0, jnw F sh.length none) rc' rs'
  rw [hn, (Vg_n hv).1, (Vg_n hv).2]
  exact k
theorem r_nas {idx : Nat} {z : Int} {len n : Nat} (rc' rs' : Nat) (hd : decode M.2.1 pc = .ok (.anewarray idx, 3)) (w1 : Cond.classLink M.1.cls idx "PainBank$State" ∈ lw_good) (hz : z = (len : Int)) (hl : len < 60000000) (h1 : rc' + 1 ≤ rc) (h2 : rs' + len ≤ rs) (hn : sh.length = n) (hv : Vg n I F) (k : jW G M d Q (pc + 3) L (jR (some n) :: S) (sh ++ [(12, len)], I, F) rc' rs') : jW G M d Q pc L (jI z :: S) (sh, I, F) rc rs := by
  refine j_less h1 h2 (j_anew hd w1 hz hl ?_)
  show jW G M d Q (pc + 3) L (jR (some sh.length) :: S) (sh ++ [(12, len)], jnw I sh.length 0, jnw F sh.length none) rc' rs'
  rw [hn, (Vg_n hv).1, (Vg_n hv).2]
  exact k
def lgI (I : Nat → Int → Int) (s : Nat) : Nat → Int → Int := I
def lgF (F : Nat → Int → Option Nat) (s : Nat) : Nat → Int → Option Nat := (jup F s 0 (some (s + 1)))
theorem sn_Log_Vg (h : Vg (s + 1) I F) : Vg (s + 2) (lgI I s) (lgF F s) := by
  intro a b ha
  have hb := h a b (by omega)
  refine ⟨?_, ?_⟩
  · unfold lgI
    skip
    exact hb.1
  · unfold lgF
    rw [jup_cell _ _ _ _ (by omega)]
    exact hb.2
theorem sn_Log (hl : sh.length = s + 1) (h0 : sh[s]? = some (4, 0)) (v0 : Vg (s + 1) I F) : jS G d mX7_init [jR (some s)] (sh, I, F) 1 240 (rV (sh ++ [(11, 240)], lgI I s, lgF F s)) := by
  refine jS_go [some (jR (some s))] (by decide +kernel) rfl (by simp [jone]) (Nat.le_of_ble_eq_true rfl) rfl (fun hok => ?_)
  refine j_aload_n dX7_init_0 rfl ?_
  refine r_objInit dX7_init_1 lmX7_3 (Nat.le_of_ble_eq_true rfl) ?_
  refine j_aload_n dX7_init_4 rfl ?_
  refine j_sipush dX7_init_5 rfl ?_
  refine r_nar (kd := 11) (t0 := 1) (ty := .int) (len := 240) (n := s + 1) 0 0 dX7_init_8 (Or.inr (Or.inl ⟨rfl, rfl, rfl⟩)) rfl wr_int rfl (by decide) (by decide) (by decide) hl v0 ?_
  have hl1 := len1 (x := (11, 240)) hl
  have h0_1 := get_app (X := [(11, 240)]) h0
  have v1 := Vg_m v0 (show s + 1 ≤ s + 2 by omega)
  refine r_putFR dX7_init_10 flX7_9 rfl rfl rfl h0_1 ?_
  have v2 := Vg_F (i := s) (k := 0) (r := some (s + 1)) v1 (show s < s + 2 by omega)
  exact j_vret dX7_init_13 rfl ⟨rfl, rfl⟩
def stI (I : Nat → Int → Int) (s : Nat) : Nat → Int → Int := (lgI (jup (jup (jup I s 9 999) s 10 2) s 14 1) (s + 8))
def stF (F : Nat → Int → Option Nat) (s : Nat) : Nat → Int → Option Nat := (jup (lgF (jup (jup (jup (jup (jup (jup (jup F s 2 (some (s + 1))) s 3 (some (s + 2))) s 4 (some (s + 3))) s 5 (some (s + 4))) s 6 (some (s + 5))) s 7 (some (s + 6))) s 8 (some (s + 7))) (s + 8)) s 19 (some (s + 8)))
theorem sn_State_Vg (h : Vg (s + 1) I F) : Vg (s + 10) (stI I s) (stF F s) := by
  intro a b ha
  have hb := h a b (by omega)
  refine ⟨?_, ?_⟩
  · unfold stI
    unfold lgI
    rw [jup_cell _ _ _ _ (by omega), jup_cell _ _ _ _ (by omega), jup_cell _ _ _ _ (by omega)]
    exact hb.1
  · unfold stF
    unfold lgF
    rw [jup_cell _ _ _ _ (by omega), jup_cell _ _ _ _ (by omega), jup_cell _ _ _ _ (by omega), jup_cell _ _ _ _ (by omega), jup_cell _ _ _ _ (by omega), jup_cell _ _ _ _ (by omega), jup_cell _ _ _ _ (by omega), jup_cell _ _ _ _ (by omega), jup_cell _ _ _ _ (by omega)]
    exact hb.2
theorem sn_State (hl : sh.length = s + 1) (h0 : sh[s]? = some (6, 0)) (v0 : Vg (s + 1) I F) : jS G (d + 1) mX9_init [jR (some s)] (sh, I, F) 9 403 (rV (sh ++ [(11, 8)] ++ [(11, 56)] ++ [(11, 8)] ++ [(11, 8)] ++ [(11, 8)] ++ [(11, 8)] ++ [(11, 64)] ++ [(4, 0)] ++ [(11, 240)], stI I s, stF F s)) := by
  refine jS_go [some (jR (some s))] (by decide +kernel) rfl (by simp [jone]) (Nat.le_of_ble_eq_true rfl) rfl (fun hok => ?_)
  refine j_aload_n dX9_init_0 rfl ?_
  refine r_objInit dX9_init_1 lmX9_3 (Nat.le_of_ble_eq_true rfl) ?_
  refine j_aload_n dX9_init_4 rfl ?_
  refine j_bipush dX9_init_5 rfl ?_
  refine r_nar (kd := 11) (t0 := 1) (ty := .int) (len := 8) (n := s + 1) 8 395 dX9_init_7 (Or.inr (Or.inl ⟨rfl, rfl, rfl⟩)) rfl wr_int rfl (by decide) (by decide) (by decide) hl v0 ?_
  have hl1 := len1 (x := (11, 8)) hl
  have h0_1 := get_app (X := [(11, 8)]) h0
  have v1 := Vg_m v0 (show s + 1 ≤ s + 2 by omega)
  refine r_putFR dX9_init_9 flX9_9 rfl rfl rfl h0_1 ?_
  have v2 := Vg_F (i := s) (k := 2) (r := some (s + 1)) v1 (show s < s + 2 by omega)
  refine j_aload_n dX9_init_12 rfl ?_
  refine j_bipush dX9_init_13 rfl ?_
  refine r_nar (kd := 11) (t0 := 1) (ty := .int) (len := 56) (n := s + 2) 7 339 dX9_init_15 (Or.inr (Or.inl ⟨rfl, rfl, rfl⟩)) rfl wr_int rfl (by decide) (by decide) (by decide) hl1 v2 ?_
  have hl3 := len1 (x := (11, 56)) hl1
  have h0_3 := get_app (X := [(11, 56)]) h0_1
  have v3 := Vg_m v2 (show s + 2 ≤ s + 3 by omega)
  refine r_putFR dX9_init_17 flX9_15 rfl rfl rfl h0_3 ?_
  have v4 := Vg_F (i := s) (k := 3) (r := some (s + 2)) v3 (show s < s + 3 by omega)
  refine j_aload_n dX9_init_20 rfl ?_
  refine j_bipush dX9_init_21 rfl ?_
  refine r_nar (kd := 11) (t0 := 1) (ty := .int) (len := 8) (n := s + 3) 6 331 dX9_init_23 (Or.inr (Or.inl ⟨rfl, rfl, rfl⟩)) rfl wr_int rfl (by decide) (by decide) (by decide) hl3 v4 ?_
  have hl5 := len1 (x := (11, 8)) hl3
  have h0_5 := get_app (X := [(11, 8)]) h0_3
  have v5 := Vg_m v4 (show s + 3 ≤ s + 4 by omega)
  refine r_putFR dX9_init_25 flX9_18 rfl rfl rfl h0_5 ?_
  have v6 := Vg_F (i := s) (k := 4) (r := some (s + 3)) v5 (show s < s + 4 by omega)
  refine j_aload_n dX9_init_28 rfl ?_
  refine j_bipush dX9_init_29 rfl ?_
  refine r_nar (kd := 11) (t0 := 1) (ty := .int) (len := 8) (n := s + 4) 5 323 dX9_init_31 (Or.inr (Or.inl ⟨rfl, rfl, rfl⟩)) rfl wr_int rfl (by decide) (by decide) (by decide) hl5 v6 ?_
  have hl7 := len1 (x := (11, 8)) hl5
  have h0_7 := get_app (X := [(11, 8)]) h0_5
  have v7 := Vg_m v6 (show s + 4 ≤ s + 5 by omega)
  refine r_putFR dX9_init_33 flX9_21 rfl rfl rfl h0_7 ?_
  have v8 := Vg_F (i := s) (k := 5) (r := some (s + 4)) v7 (show s < s + 5 by omega)
  refine j_aload_n dX9_init_36 rfl ?_
  refine j_bipush dX9_init_37 rfl ?_
  refine r_nar (kd := 11) (t0 := 1) (ty := .int) (len := 8) (n := s + 5) 4 315 dX9_init_39 (Or.inr (Or.inl ⟨rfl, rfl, rfl⟩)) rfl wr_int rfl (by decide) (by decide) (by decide) hl7 v8 ?_
  have hl9 := len1 (x := (11, 8)) hl7
  have h0_9 := get_app (X := [(11, 8)]) h0_7
  have v9 := Vg_m v8 (show s + 5 ≤ s + 6 by omega)
  refine r_putFR dX9_init_41 flX9_24 rfl rfl rfl h0_9 ?_
  have v10 := Vg_F (i := s) (k := 6) (r := some (s + 5)) v9 (show s < s + 6 by omega)
  refine j_aload_n dX9_init_44 rfl ?_
  refine j_bipush dX9_init_45 rfl ?_
  refine r_nar (kd := 11) (t0 := 1) (ty := .int) (len := 8) (n := s + 6) 3 307 dX9_init_47 (Or.inr (Or.inl ⟨rfl, rfl, rfl⟩)) rfl wr_int rfl (by decide) (by decide) (by decide) hl9 v10 ?_
  have hl11 := len1 (x := (11, 8)) hl9
  have h0_11 := get_app (X := [(11, 8)]) h0_9
  have v11 := Vg_m v10 (show s + 6 ≤ s + 7 by omega)
  refine r_putFR dX9_init_49 flX9_27 rfl rfl rfl h0_11 ?_
  have v12 := Vg_F (i := s) (k := 7) (r := some (s + 6)) v11 (show s < s + 7 by omega)
  refine j_aload_n dX9_init_52 rfl ?_
  refine j_bipush dX9_init_53 rfl ?_
  refine r_nar (kd := 11) (t0 := 1) (ty := .int) (len := 64) (n := s + 7) 2 243 dX9_init_55 (Or.inr (Or.inl ⟨rfl, rfl, rfl⟩)) rfl wr_int rfl (by decide) (by decide) (by decide) hl11 v12 ?_
  have hl13 := len1 (x := (11, 64)) hl11
  have h0_13 := get_app (X := [(11, 64)]) h0_11
  have v13 := Vg_m v12 (show s + 7 ≤ s + 8 by omega)
  refine r_putFR dX9_init_57 flX9_30 rfl rfl rfl h0_13 ?_
  have v14 := Vg_F (i := s) (k := 8) (r := some (s + 7)) v13 (show s < s + 8 by omega)
  refine j_aload_n dX9_init_60 rfl ?_
  refine j_sipush dX9_init_61 rfl ?_
  refine r_putI dX9_init_64 flX9_33 rfl h0_13 (by decide) (fun q => by cases q) ?_
  have v15 := Vg_I (i := s) (k := 9) (z := 999) v14 (show s < s + 8 by omega)
  refine j_aload_n dX9_init_67 rfl ?_
  refine j_iconst dX9_init_68 ?_
  refine r_putI dX9_init_69 flX9_37 rfl h0_13 (by decide) (fun q => by cases q) ?_
  have v16 := Vg_I (i := s) (k := 10) (z := 2) v15 (show s < s + 8 by omega)
  refine j_aload_n dX9_init_72 rfl ?_
  refine j_iconst dX9_init_73 ?_
  refine r_putI dX9_init_74 flX9_40 rfl h0_13 (by decide) (fun q => by cases q) ?_
  have v17 := Vg_I (i := s) (k := 14) (z := 1) v16 (show s < s + 8 by omega)
  refine j_aload_n dX9_init_77 rfl ?_
  refine r_nob (ci := 4) (n := s + 8) 1 240 dX9_init_78 (by decide) clX9_43 wi_4 wn_4 (by decide) (by decide) hl13 v17 ?_
  have hn18 := get_e (x := (4, 0)) hl13
  have hl18 := len1 (x := (4, 0)) hl13
  have h0_18 := get_app (X := [(4, 0)]) h0_13
  have v18 := Vg_m v17 (show s + 8 ≤ s + 9 by omega)
  refine j_dup dX9_init_81 trivial ?_
  refine j_callN (As := []) (S := [jR (some (s + 8)), jR (some s)]) (rc' := 0) (rs' := 0) dX9_init_82 cnX9_45 rfl (Nat.le_of_ble_eq_true rfl) (by decide) (by decide) (sn_Log (s := s + 8) hl18 hn18 v18) ?_
  have hl20 := len1 (x := (11, 240)) hl18
  have h0_20 := get_app (X := [(11, 240)]) h0_18
  have v20 := sn_Log_Vg (s := s + 8) v18
  refine r_putFR dX9_init_85 flX9_46 rfl rfl rfl h0_20 ?_
  have v21 := Vg_F (i := s) (k := 19) (r := some (s + 8)) v20 (show s < s + 10 by omega)
  exact j_vret dX9_init_88 rfl ⟨rfl, rfl⟩
def txI (I : Nat → Int → Int) (s : Nat) : Nat → Int → Int := I
def txF (F : Nat → Int → Option Nat) (s : Nat) : Nat → Int → Option Nat := (jup F s 0 (some (s + 1)))
theorem sn_Text_Vg (h : Vg (s + 1) I F) : Vg (s + 2) (txI I s) (txF F s) := by
  intro a b ha
  have hb := h a b (by omega)
  refine ⟨?_, ?_⟩
  · unfold txI
    skip
    exact hb.1
  · unfold txF
    rw [jup_cell _ _ _ _ (by omega)]
    exact hb.2
theorem sn_Text (hl : sh.length = s + 1) (h0 : sh[s]? = some (7, 0)) (v0 : Vg (s + 1) I F) : jS G d mX10_init [jR (some s)] (sh, I, F) 1 400 (rV (sh ++ [(11, 400)], txI I s, txF F s)) := by
  refine jS_go [some (jR (some s))] (by decide +kernel) rfl (by simp [jone]) (Nat.le_of_ble_eq_true rfl) rfl (fun hok => ?_)
  refine j_aload_n dX10_init_0 rfl ?_
  refine r_objInit dX10_init_1 lmX10_3 (Nat.le_of_ble_eq_true rfl) ?_
  refine j_aload_n dX10_init_4 rfl ?_
  refine j_sipush dX10_init_5 rfl ?_
  refine r_nar (kd := 11) (t0 := 1) (ty := .int) (len := 400) (n := s + 1) 0 0 dX10_init_8 (Or.inr (Or.inl ⟨rfl, rfl, rfl⟩)) rfl wr_int rfl (by decide) (by decide) (by decide) hl v0 ?_
  have hl1 := len1 (x := (11, 400)) hl
  have h0_1 := get_app (X := [(11, 400)]) h0
  have v1 := Vg_m v0 (show s + 1 ≤ s + 2 by omega)
  refine r_putFR dX10_init_10 flX10_9 rfl rfl rfl h0_1 ?_
  have v2 := Vg_F (i := s) (k := 0) (r := some (s + 1)) v1 (show s < s + 2 by omega)
  exact j_vret dX10_init_13 rfl ⟨rfl, rfl⟩
def lrI (I : Nat → Int → Int) (s : Nat) : Nat → Int → Int := I
def lrF (F : Nat → Int → Option Nat) (s : Nat) : Nat → Int → Option Nat := (jup (jup (jup F s 0 (some (s + 1))) s 1 (some (s + 2))) s 2 (some (s + 3)))
theorem sn_Read_Vg (h : Vg (s + 1) I F) : Vg (s + 4) (lrI I s) (lrF F s) := by
  intro a b ha
  have hb := h a b (by omega)
  refine ⟨?_, ?_⟩
  · unfold lrI
    skip
    exact hb.1
  · unfold lrF
    rw [jup_cell _ _ _ _ (by omega), jup_cell _ _ _ _ (by omega), jup_cell _ _ _ _ (by omega)]
    exact hb.2
theorem sn_Read (hl : sh.length = s + 1) (h0 : sh[s]? = some (3, 0)) (v0 : Vg (s + 1) I F) : jS G d mX6_init [jR (some s)] (sh, I, F) 3 425 (rV (sh ++ [(11, 400)] ++ [(11, 12)] ++ [(11, 13)], lrI I s, lrF F s)) := by
  refine jS_go [some (jR (some s))] (by decide +kernel) rfl (by simp [jone]) (Nat.le_of_ble_eq_true rfl) rfl (fun hok => ?_)
  refine j_aload_n dX6_init_0 rfl ?_
  refine r_objInit dX6_init_1 lmX6_3 (Nat.le_of_ble_eq_true rfl) ?_
  refine j_aload_n dX6_init_4 rfl ?_
  refine j_sipush dX6_init_5 rfl ?_
  refine r_nar (kd := 11) (t0 := 1) (ty := .int) (len := 400) (n := s + 1) 2 25 dX6_init_8 (Or.inr (Or.inl ⟨rfl, rfl, rfl⟩)) rfl wr_int rfl (by decide) (by decide) (by decide) hl v0 ?_
  have hl1 := len1 (x := (11, 400)) hl
  have h0_1 := get_app (X := [(11, 400)]) h0
  have v1 := Vg_m v0 (show s + 1 ≤ s + 2 by omega)
  refine r_putFR dX6_init_10 flX6_9 rfl rfl rfl h0_1 ?_
  have v2 := Vg_F (i := s) (k := 0) (r := some (s + 1)) v1 (show s < s + 2 by omega)
  refine j_aload_n dX6_init_13 rfl ?_
  refine j_bipush dX6_init_14 rfl ?_
  refine r_nar (kd := 11) (t0 := 1) (ty := .int) (len := 12) (n := s + 2) 1 13 dX6_init_16 (Or.inr (Or.inl ⟨rfl, rfl, rfl⟩)) rfl wr_int rfl (by decide) (by decide) (by decide) hl1 v2 ?_
  have hl3 := len1 (x := (11, 12)) hl1
  have h0_3 := get_app (X := [(11, 12)]) h0_1
  have v3 := Vg_m v2 (show s + 2 ≤ s + 3 by omega)
  refine r_putFR dX6_init_18 flX6_15 rfl rfl rfl h0_3 ?_
  have v4 := Vg_F (i := s) (k := 1) (r := some (s + 2)) v3 (show s < s + 3 by omega)
  refine j_aload_n dX6_init_21 rfl ?_
  refine j_bipush dX6_init_22 rfl ?_
  refine r_nar (kd := 11) (t0 := 1) (ty := .int) (len := 13) (n := s + 3) 0 0 dX6_init_24 (Or.inr (Or.inl ⟨rfl, rfl, rfl⟩)) rfl wr_int rfl (by decide) (by decide) (by decide) hl3 v4 ?_
  have hl5 := len1 (x := (11, 13)) hl3
  have h0_5 := get_app (X := [(11, 13)]) h0_3
  have v5 := Vg_m v4 (show s + 3 ≤ s + 4 by omega)
  refine r_putFR dX6_init_26 flX6_18 rfl rfl rfl h0_5 ?_
  have v6 := Vg_F (i := s) (k := 2) (r := some (s + 3)) v5 (show s < s + 4 by omega)
  exact j_vret dX6_init_29 rfl ⟨rfl, rfl⟩
def coI (I : Nat → Int → Int) (s : Nat) : Nat → Int → Int := I
def coF (F : Nat → Int → Option Nat) (s : Nat) : Nat → Int → Option Nat := (jup (jup (jup (jup (jup F s 0 (some (s + 1))) s 1 (some (s + 2))) s 2 (some (s + 3))) s 3 (some (s + 4))) s 4 (some (s + 5)))
theorem sn_Cour_Vg (h : Vg (s + 1) I F) : Vg (s + 6) (coI I s) (coF F s) := by
  intro a b ha
  have hb := h a b (by omega)
  refine ⟨?_, ?_⟩
  · unfold coI
    skip
    exact hb.1
  · unfold coF
    rw [jup_cell _ _ _ _ (by omega), jup_cell _ _ _ _ (by omega), jup_cell _ _ _ _ (by omega), jup_cell _ _ _ _ (by omega), jup_cell _ _ _ _ (by omega)]
    exact hb.2
theorem sn_Cour (hl : sh.length = s + 1) (h0 : sh[s]? = some (0, 0)) (v0 : Vg (s + 1) I F) : jS G d mX2_init [jR (some s)] (sh, I, F) 5 96 (rV (sh ++ [(11, 8)] ++ [(11, 8)] ++ [(11, 8)] ++ [(11, 8)] ++ [(11, 64)], coI I s, coF F s)) := by
  refine jS_go [some (jR (some s))] (by decide +kernel) rfl (by simp [jone]) (Nat.le_of_ble_eq_true rfl) rfl (fun hok => ?_)
  refine j_aload_n dX2_init_0 rfl ?_
  refine r_objInit dX2_init_1 lmX2_3 (Nat.le_of_ble_eq_true rfl) ?_
  refine j_aload_n dX2_init_4 rfl ?_
  refine j_bipush dX2_init_5 rfl ?_
  refine r_nar (kd := 11) (t0 := 1) (ty := .int) (len := 8) (n := s + 1) 4 88 dX2_init_7 (Or.inr (Or.inl ⟨rfl, rfl, rfl⟩)) rfl wr_int rfl (by decide) (by decide) (by decide) hl v0 ?_
  have hl1 := len1 (x := (11, 8)) hl
  have h0_1 := get_app (X := [(11, 8)]) h0
  have v1 := Vg_m v0 (show s + 1 ≤ s + 2 by omega)
  refine r_putFR dX2_init_9 flX2_9 rfl rfl rfl h0_1 ?_
  have v2 := Vg_F (i := s) (k := 0) (r := some (s + 1)) v1 (show s < s + 2 by omega)
  refine j_aload_n dX2_init_12 rfl ?_
  refine j_bipush dX2_init_13 rfl ?_
  refine r_nar (kd := 11) (t0 := 1) (ty := .int) (len := 8) (n := s + 2) 3 80 dX2_init_15 (Or.inr (Or.inl ⟨rfl, rfl, rfl⟩)) rfl wr_int rfl (by decide) (by decide) (by decide) hl1 v2 ?_
  have hl3 := len1 (x := (11, 8)) hl1
  have h0_3 := get_app (X := [(11, 8)]) h0_1
  have v3 := Vg_m v2 (show s + 2 ≤ s + 3 by omega)
  refine r_putFR dX2_init_17 flX2_15 rfl rfl rfl h0_3 ?_
  have v4 := Vg_F (i := s) (k := 1) (r := some (s + 2)) v3 (show s < s + 3 by omega)
  refine j_aload_n dX2_init_20 rfl ?_
  refine j_bipush dX2_init_21 rfl ?_
  refine r_nar (kd := 11) (t0 := 1) (ty := .int) (len := 8) (n := s + 3) 2 72 dX2_init_23 (Or.inr (Or.inl ⟨rfl, rfl, rfl⟩)) rfl wr_int rfl (by decide) (by decide) (by decide) hl3 v4 ?_
  have hl5 := len1 (x := (11, 8)) hl3
  have h0_5 := get_app (X := [(11, 8)]) h0_3
  have v5 := Vg_m v4 (show s + 3 ≤ s + 4 by omega)
  refine r_putFR dX2_init_25 flX2_18 rfl rfl rfl h0_5 ?_
  have v6 := Vg_F (i := s) (k := 2) (r := some (s + 3)) v5 (show s < s + 4 by omega)
  refine j_aload_n dX2_init_28 rfl ?_
  refine j_bipush dX2_init_29 rfl ?_
  refine r_nar (kd := 11) (t0 := 1) (ty := .int) (len := 8) (n := s + 4) 1 64 dX2_init_31 (Or.inr (Or.inl ⟨rfl, rfl, rfl⟩)) rfl wr_int rfl (by decide) (by decide) (by decide) hl5 v6 ?_
  have hl7 := len1 (x := (11, 8)) hl5
  have h0_7 := get_app (X := [(11, 8)]) h0_5
  have v7 := Vg_m v6 (show s + 4 ≤ s + 5 by omega)
  refine r_putFR dX2_init_33 flX2_21 rfl rfl rfl h0_7 ?_
  have v8 := Vg_F (i := s) (k := 3) (r := some (s + 4)) v7 (show s < s + 5 by omega)
  refine j_aload_n dX2_init_36 rfl ?_
  refine j_bipush dX2_init_37 rfl ?_
  refine r_nar (kd := 11) (t0 := 1) (ty := .int) (len := 64) (n := s + 5) 0 0 dX2_init_39 (Or.inr (Or.inl ⟨rfl, rfl, rfl⟩)) rfl wr_int rfl (by decide) (by decide) (by decide) hl7 v8 ?_
  have hl9 := len1 (x := (11, 64)) hl7
  have h0_9 := get_app (X := [(11, 64)]) h0_7
  have v9 := Vg_m v8 (show s + 5 ≤ s + 6 by omega)
  refine r_putFR dX2_init_41 flX2_24 rfl rfl rfl h0_9 ?_
  have v10 := Vg_F (i := s) (k := 4) (r := some (s + 5)) v9 (show s < s + 6 by omega)
  exact j_vret dX2_init_44 rfl ⟨rfl, rfl⟩
def deI (I : Nat → Int → Int) (s : Nat) : Nat → Int → Int := I
def deF (F : Nat → Int → Option Nat) (s : Nat) : Nat → Int → Option Nat := (jup (jup (jup F s 0 (some (s + 1))) s 1 (some (s + 2))) s 2 (some (s + 3)))
theorem sn_Debt_Vg (h : Vg (s + 1) I F) : Vg (s + 4) (deI I s) (deF F s) := by
  intro a b ha
  have hb := h a b (by omega)
  refine ⟨?_, ?_⟩
  · unfold deI
    skip
    exact hb.1
  · unfold deF
    rw [jup_cell _ _ _ _ (by omega), jup_cell _ _ _ _ (by omega), jup_cell _ _ _ _ (by omega)]
    exact hb.2
theorem sn_Debt (hl : sh.length = s + 1) (h0 : sh[s]? = some (1, 0)) (v0 : Vg (s + 1) I F) : jS G d mX4_init [jR (some s)] (sh, I, F) 3 520 (rV (sh ++ [(11, 8)] ++ [(11, 256)] ++ [(11, 256)], deI I s, deF F s)) := by
  refine jS_go [some (jR (some s))] (by decide +kernel) rfl (by simp [jone]) (Nat.le_of_ble_eq_true rfl) rfl (fun hok => ?_)
  refine j_aload_n dX4_init_0 rfl ?_
  refine r_objInit dX4_init_1 lmX4_3 (Nat.le_of_ble_eq_true rfl) ?_
  refine j_aload_n dX4_init_4 rfl ?_
  refine j_bipush dX4_init_5 rfl ?_
  refine r_nar (kd := 11) (t0 := 1) (ty := .int) (len := 8) (n := s + 1) 2 512 dX4_init_7 (Or.inr (Or.inl ⟨rfl, rfl, rfl⟩)) rfl wr_int rfl (by decide) (by decide) (by decide) hl v0 ?_
  have hl1 := len1 (x := (11, 8)) hl
  have h0_1 := get_app (X := [(11, 8)]) h0
  have v1 := Vg_m v0 (show s + 1 ≤ s + 2 by omega)
  refine r_putFR dX4_init_9 flX4_9 rfl rfl rfl h0_1 ?_
  have v2 := Vg_F (i := s) (k := 0) (r := some (s + 1)) v1 (show s < s + 2 by omega)
  refine j_aload_n dX4_init_12 rfl ?_
  refine j_sipush dX4_init_13 rfl ?_
  refine r_nar (kd := 11) (t0 := 1) (ty := .int) (len := 256) (n := s + 2) 1 256 dX4_init_16 (Or.inr (Or.inl ⟨rfl, rfl, rfl⟩)) rfl wr_int rfl (by decide) (by decide) (by decide) hl1 v2 ?_
  have hl3 := len1 (x := (11, 256)) hl1
  have h0_3 := get_app (X := [(11, 256)]) h0_1
  have v3 := Vg_m v2 (show s + 2 ≤ s + 3 by omega)
  refine r_putFR dX4_init_18 flX4_15 rfl rfl rfl h0_3 ?_
  have v4 := Vg_F (i := s) (k := 1) (r := some (s + 2)) v3 (show s < s + 3 by omega)
  refine j_aload_n dX4_init_21 rfl ?_
  refine j_sipush dX4_init_22 rfl ?_
  refine r_nar (kd := 11) (t0 := 1) (ty := .int) (len := 256) (n := s + 3) 0 0 dX4_init_25 (Or.inr (Or.inl ⟨rfl, rfl, rfl⟩)) rfl wr_int rfl (by decide) (by decide) (by decide) hl3 v4 ?_
  have hl5 := len1 (x := (11, 256)) hl3
  have h0_5 := get_app (X := [(11, 256)]) h0_3
  have v5 := Vg_m v4 (show s + 3 ≤ s + 4 by omega)
  refine r_putFR dX4_init_27 flX4_18 rfl rfl rfl h0_5 ?_
  have v6 := Vg_F (i := s) (k := 2) (r := some (s + 3)) v5 (show s < s + 4 by omega)
  exact j_vret dX4_init_30 rfl ⟨rfl, rfl⟩
end
