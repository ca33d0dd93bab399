/-! NEW OBJECTS: the memory, the bank, the model -/
/-- the memory's cells after j states -/
def mmS (sh : List (Nat × Nat)) : Nat → List (Nat × Nat)
  | 0 => sh ++ [(12, 12)]
  | j + 1 => mmS sh j ++ [(6, 0)] ++ [(11, 8)] ++ [(11, 56)] ++ [(11, 8)] ++ [(11, 8)] ++ [(11, 8)] ++ [(11, 8)] ++ [(11, 64)] ++ [(4, 0)] ++ [(11, 240)]
def mmI (I : Nat → Int → Int) (s : Nat) : Nat → Nat → Int → Int
  | 0 => I
  | j + 1 => stI (mmI I s j) (s + 2 + 10 * j)
def mmF (F : Nat → Int → Option Nat) (s : Nat) : Nat → Nat → Int → Option Nat
  | 0 => jup F s 0 (some (s + 1))
  | j + 1 => jup (stF (mmF F s j) (s + 2 + 10 * j)) (s + 1) (j : Int) (some (s + 2 + 10 * j))
section
variable {G : jzG} {M : jzM} {d pc rc rs : Nat} {Q : jzO → jzH → Prop} {L : List (Option jzV)} {S : List jzV} {sh : List (Nat × Nat)} {I : Nat → Int → Int} {F : Nat → Int → Option Nat} {s j : Nat}
theorem stF_o {a : Nat} {k : Int} (h : a ≠ s) (h8 : a ≠ s + 8) : stF F s a k = F a k := by
  unfold stF lgF
  rw [jup_cell _ _ _ _ h, jup_cell _ _ _ _ h8, jup_cell _ _ _ _ h, jup_cell _ _ _ _ h, jup_cell _ _ _ _ h, jup_cell _ _ _ _ h, jup_cell _ _ _ _ h, jup_cell _ _ _ _ h, jup_cell _ _ _ _ h]
theorem stI_o {a : Nat} {k : Int} (h : a ≠ s) : stI I s a k = I a k := by
  unfold stI lgI
  rw [jup_cell _ _ _ _ h, jup_cell _ _ _ _ h, jup_cell _ _ _ _ h]
theorem mm_len (hl : sh.length = s + 1) : (mmS sh j).length = s + 2 + 10 * j := by
  induction j with
  | zero => exact len1 hl
  | succ j ih => exact (len1 (len1 (len1 (len1 (len1 (len1 (len1 (len1 (len1 (len1 ih)))))))))).trans (by omega)
theorem mm_get {i : Nat} {v : Nat × Nat} (h : sh[i]? = some v) : (mmS sh j)[i]? = some v := by
  induction j with
  | zero => exact get_app h
  | succ j ih => exact get_app (get_app (get_app (get_app (get_app (get_app (get_app (get_app (get_app (get_app ih)))))))))
theorem mm_arr (hl : sh.length = s + 1) : (mmS sh j)[s + 1]? = some (12, 12) := by
  induction j with
  | zero => exact get_e hl
  | succ j ih => exact get_app (get_app (get_app (get_app (get_app (get_app (get_app (get_app (get_app (get_app ih)))))))))
theorem mm_Vg (h : Vg (s + 1) I F) : Vg (s + 2 + 10 * j) (mmI I s j) (mmF F s j) := by
  induction j with
  | zero => exact Vg_m (Vg_F h (by omega)) (by omega)
  | succ j ih => exact Vg_m (Vg_F (sn_State_Vg (s := s + 2 + 10 * j) (Vg_m ih (by omega))) (by omega)) (by omega)
theorem mm_F0 : mmF F s j s 0 = some (s + 1) := by
  induction j with
  | zero => exact jup_same _ _ _ _
  | succ j ih =>
    show jup (stF (mmF F s j) (s + 2 + 10 * j)) (s + 1) (j : Int) (some (s + 2 + 10 * j)) s 0 = _
    rw [jup_cell _ _ _ _ (by omega), stF_o (by omega) (by omega)]
    exact ih
theorem sn_memL (hl : sh.length = s + 1) (h0 : sh[s]? = some (5, 0)) (v0 : Vg (s + 1) I F) : ∀ (k j : Nat), j + k = 12 → jW G mX8_init (d + 2) (rV (mmS sh 12, mmI I s 12, mmF F s 12)) 15 [some (jR (some s)), some (jI (j : Int))] [] (mmS sh j, mmI I s j, mmF F s j) (10 * k) (423 * k) := by
  intro k
  induction k with
  | zero =>
    intro j hj
    have e : j = 12 := by omega
    subst e
    refine j_iload_n dX8_init_15 rfl ?_
    refine j_bipush dX8_init_16 rfl ?_
    refine j_icmp_ge (tgt := 40) dX8_init_18 rfl (by omega) (by omega) (fun _ => ?_) (fun z => by omega)
    exact j_vret dX8_init_40 rfl ⟨rfl, rfl⟩
  | succ k ih =>
    intro j hj
    have hlj := mm_len (j := j) hl
    have vj := mm_Vg (j := j) v0
    have hlj2 := len1 (x := (6, 0)) hlj
    have vj2 := Vg_m vj (show s + 2 + 10 * j ≤ s + 2 + 10 * j + 1 by omega)
    have hn := get_e (x := (6, 0)) hlj
    have nx := ih (j + 1) (by omega)
    have ej : ((j + 1 : Nat) : Int) = (j : Int) + 1 := by omega
    rw [ej] at nx
    refine j_iload_n dX8_init_15 rfl ?_
    refine j_bipush dX8_init_16 rfl ?_
    refine j_icmp_ge (tgt := 40) dX8_init_18 rfl (by omega) (by omega) (fun z => by omega) (fun z => ?_)
    refine j_aload_n dX8_init_21 rfl ?_
    refine r_getS dX8_init_22 flX8_11 (mm_get h0) mm_F0 ?_
    refine j_iload_n dX8_init_25 rfl ?_
    refine r_nob (ci := 6) (n := s + 2 + 10 * j) (10 * k + 9) (423 * k + 403) dX8_init_26 (by decide) clX8_9 wi_6 wn_6 (by omega) (by show 423 * k + 403 + 20 ≤ _; omega) hlj vj ?_
    refine j_dup dX8_init_29 trivial ?_
    refine j_callN (As := []) (S := [jR (some (s + 2 + 10 * j)), jI (j : Int), jR (some (s + 1))]) (rc' := 10 * k) (rs' := 423 * k) dX8_init_30 cnX8_17 rfl (Nat.le_of_ble_eq_true rfl) (by omega) (by omega) (sn_State (s := s + 2 + 10 * j) hlj2 hn vj2) ?_
    refine r_aastore (i := s + 1) (len := 12) (la := 0) dX8_init_33 (get_app (get_app (get_app (get_app (get_app (get_app (get_app (get_app (get_app (get_app (mm_arr hl))))))))))) (get_app (get_app (get_app (get_app (get_app (get_app (get_app (get_app (get_app hn))))))))) (by omega) (by omega) ?_
    refine j_iinc dX8_init_34 rfl (by decide) ?_
    refine j_goto (tgt := 15) dX8_init_37 rfl ?_
    exact nx
theorem sn_Mem (hl : sh.length = s + 1) (h0 : sh[s]? = some (5, 0)) (v0 : Vg (s + 1) I F) : jS G (d + 2) mX8_init [jR (some s)] (sh, I, F) 121 5088 (rV (mmS sh 12, mmI I s 12, mmF F s 12)) := by
  refine jS_go [some (jR (some s)), none] (by decide +kernel) rfl (by simp [jone]) (Nat.le_of_ble_eq_true rfl) rfl (fun hok => ?_)
  refine j_aload_n dX8_init_0 rfl ?_
  refine r_objInit dX8_init_1 lmX8_3 (Nat.le_of_ble_eq_true rfl) ?_
  refine j_aload_n dX8_init_4 rfl ?_
  refine j_bipush dX8_init_5 rfl ?_
  refine r_nas (len := 12) (n := s + 1) 120 5076 dX8_init_7 clX8_9 rfl (by decide) (by decide) (by decide) hl v0 ?_
  refine r_putFR dX8_init_10 flX8_11 rfl rfl rfl (get_app h0) ?_
  refine j_iconst dX8_init_13 ?_
  refine j_istore_n dX8_init_14 (by decide) ?_
  exact sn_memL hl h0 v0 12 0 rfl
def bkI (I : Nat → Int → Int) (s : Nat) : Nat → Int → Int := (deI (coI (lrI (txI (mmI (stI (stI (stI (jup I s 2 (-1)) (s + 2)) (s + 12)) (s + 22)) (s + 32) 12) (s + 154)) (s + 156)) (s + 160)) (s + 166))
def bkF (F : Nat → Int → Option Nat) (s : Nat) : Nat → Int → Option Nat := (jup (deF (jup (coF (jup (lrF (jup (txF (jup (mmF (jup (stF (jup (stF (jup (stF (jup F s 0 (some (s + 1))) (s + 2)) s 3 (some (s + 2))) (s + 12)) s 4 (some (s + 12))) (s + 22)) s 5 (some (s + 22))) (s + 32) 12) s 7 (some (s + 32))) (s + 154)) s 8 (some (s + 154))) (s + 156)) s 9 (some (s + 156))) (s + 160)) s 10 (some (s + 160))) (s + 166)) s 11 (some (s + 166)))
theorem sn_Bank (hl : sh.length = s + 1) (h0 : sh[s]? = some (8, 0)) (v0 : Vg (s + 1) I F) : jS G (d + 3) mX11_init [jR (some s)] (sh, I, F) 169 8227 (rV (mmS (sh ++ [(11, 400)] ++ [(6, 0)] ++ [(11, 8)] ++ [(11, 56)] ++ [(11, 8)] ++ [(11, 8)] ++ [(11, 8)] ++ [(11, 8)] ++ [(11, 64)] ++ [(4, 0)] ++ [(11, 240)] ++ [(6, 0)] ++ [(11, 8)] ++ [(11, 56)] ++ [(11, 8)] ++ [(11, 8)] ++ [(11, 8)] ++ [(11, 8)] ++ [(11, 64)] ++ [(4, 0)] ++ [(11, 240)] ++ [(6, 0)] ++ [(11, 8)] ++ [(11, 56)] ++ [(11, 8)] ++ [(11, 8)] ++ [(11, 8)] ++ [(11, 8)] ++ [(11, 64)] ++ [(4, 0)] ++ [(11, 240)] ++ [(5, 0)]) 12 ++ [(7, 0)] ++ [(11, 400)] ++ [(3, 0)] ++ [(11, 400)] ++ [(11, 12)] ++ [(11, 13)] ++ [(0, 0)] ++ [(11, 8)] ++ [(11, 8)] ++ [(11, 8)] ++ [(11, 8)] ++ [(11, 64)] ++ [(1, 0)] ++ [(11, 8)] ++ [(11, 256)] ++ [(11, 256)], bkI I s, bkF F s)) := by
  refine jS_go [some (jR (some s))] (by decide +kernel) rfl (by simp [jone]) (Nat.le_of_ble_eq_true rfl) rfl (fun hok => ?_)
  refine j_aload_n dX11_init_0 rfl ?_
  refine r_objInit dX11_init_1 lmX11_1 (Nat.le_of_ble_eq_true rfl) ?_
  refine j_aload_n dX11_init_4 rfl ?_
  refine j_sipush dX11_init_5 rfl ?_
  refine r_nar (kd := 11) (t0 := 1) (ty := .int) (len := 400) (n := s + 1) 168 7827 dX11_init_8 (Or.inr (Or.inl ⟨rfl, rfl, rfl⟩)) rfl wr_int rfl (by decide) (by decide) (by decide) hl v0 ?_
  have hl1 := len1 (x := (11, 400)) hl
  have h0_1 := get_app (X := [(11, 400)]) h0
  have v1 := Vg_m v0 (show s + 1 ≤ s + 2 by omega)
  refine r_putFR dX11_init_10 flX11_9 rfl rfl rfl h0_1 ?_
  have v2 := Vg_F (i := s) (k := 0) (r := some (s + 1)) v1 (show s < s + 2 by omega)
  refine j_aload_n dX11_init_13 rfl ?_
  refine j_iconst dX11_init_14 ?_
  refine r_putI dX11_init_15 flX11_13 rfl h0_1 (by decide) (fun q => by cases q) ?_
  have v3 := Vg_I (i := s) (k := 2) (z := (-1)) v2 (show s < s + 2 by omega)
  refine j_aload_n dX11_init_18 rfl ?_
  refine r_nob (ci := 6) (n := s + 2) 167 7807 dX11_init_19 (by decide) clX11_17 wi_6 wn_6 (by decide) (by decide) hl1 v3 ?_
  have hn4 := get_e (x := (6, 0)) hl1
  have hl4 := len1 (x := (6, 0)) hl1
  have h0_4 := get_app (X := [(6, 0)]) h0_1
  have v4 := Vg_m v3 (show s + 2 ≤ s + 3 by omega)
  refine j_dup dX11_init_22 trivial ?_
  refine j_callN (As := []) (S := [jR (some (s + 2)), jR (some s)]) (rc' := 158) (rs' := 7404) dX11_init_23 cnX11_19 rfl (Nat.le_of_ble_eq_true rfl) (by decide) (by decide) (sn_State (s := s + 2) hl4 hn4 v4) ?_
  have hl6 := len1 (x := (11, 8)) hl4
  have h0_6 := get_app (X := [(11, 8)]) h0_4
  have hl7 := len1 (x := (11, 56)) hl6
  have h0_7 := get_app (X := [(11, 56)]) h0_6
  have hl8 := len1 (x := (11, 8)) hl7
  have h0_8 := get_app (X := [(11, 8)]) h0_7
  have hl9 := len1 (x := (11, 8)) hl8
  have h0_9 := get_app (X := [(11, 8)]) h0_8
  have hl10 := len1 (x := (11, 8)) hl9
  have h0_10 := get_app (X := [(11, 8)]) h0_9
  have hl11 := len1 (x := (11, 8)) hl10
  have h0_11 := get_app (X := [(11, 8)]) h0_10
  have hl12 := len1 (x := (11, 64)) hl11
  have h0_12 := get_app (X := [(11, 64)]) h0_11
  have hl13 := len1 (x := (4, 0)) hl12
  have h0_13 := get_app (X := [(4, 0)]) h0_12
  have hl14 := len1 (x := (11, 240)) hl13
  have h0_14 := get_app (X := [(11, 240)]) h0_13
  have v14 := sn_State_Vg (s := s + 2) v4
  refine r_putFR dX11_init_26 flX11_20 rfl rfl rfl h0_14 ?_
  have v15 := Vg_F (i := s) (k := 3) (r := some (s + 2)) v14 (show s < s + 12 by omega)
  refine j_aload_n dX11_init_29 rfl ?_
  refine r_nob (ci := 6) (n := s + 12) 157 7384 dX11_init_30 (by decide) clX11_17 wi_6 wn_6 (by decide) (by decide) hl14 v15 ?_
  have hn16 := get_e (x := (6, 0)) hl14
  have hl16 := len1 (x := (6, 0)) hl14
  have h0_16 := get_app (X := [(6, 0)]) h0_14
  have v16 := Vg_m v15 (show s + 12 ≤ s + 13 by omega)
  refine j_dup dX11_init_33 trivial ?_
  refine j_callN (As := []) (S := [jR (some (s + 12)), jR (some s)]) (rc' := 148) (rs' := 6981) dX11_init_34 cnX11_19 rfl (Nat.le_of_ble_eq_true rfl) (by decide) (by decide) (sn_State (s := s + 12) hl16 hn16 v16) ?_
  have hl18 := len1 (x := (11, 8)) hl16
  have h0_18 := get_app (X := [(11, 8)]) h0_16
  have hl19 := len1 (x := (11, 56)) hl18
  have h0_19 := get_app (X := [(11, 56)]) h0_18
  have hl20 := len1 (x := (11, 8)) hl19
  have h0_20 := get_app (X := [(11, 8)]) h0_19
  have hl21 := len1 (x := (11, 8)) hl20
  have h0_21 := get_app (X := [(11, 8)]) h0_20
  have hl22 := len1 (x := (11, 8)) hl21
  have h0_22 := get_app (X := [(11, 8)]) h0_21
  have hl23 := len1 (x := (11, 8)) hl22
  have h0_23 := get_app (X := [(11, 8)]) h0_22
  have hl24 := len1 (x := (11, 64)) hl23
  have h0_24 := get_app (X := [(11, 64)]) h0_23
  have hl25 := len1 (x := (4, 0)) hl24
  have h0_25 := get_app (X := [(4, 0)]) h0_24
  have hl26 := len1 (x := (11, 240)) hl25
  have h0_26 := get_app (X := [(11, 240)]) h0_25
  have v26 := sn_State_Vg (s := s + 12) v16
  refine r_putFR dX11_init_37 flX11_24 rfl rfl rfl h0_26 ?_
  have v27 := Vg_F (i := s) (k := 4) (r := some (s + 12)) v26 (show s < s + 22 by omega)
  refine j_aload_n dX11_init_40 rfl ?_
  refine r_nob (ci := 6) (n := s + 22) 147 6961 dX11_init_41 (by decide) clX11_17 wi_6 wn_6 (by decide) (by decide) hl26 v27 ?_
  have hn28 := get_e (x := (6, 0)) hl26
  have hl28 := len1 (x := (6, 0)) hl26
  have h0_28 := get_app (X := [(6, 0)]) h0_26
  have v28 := Vg_m v27 (show s + 22 ≤ s + 23 by omega)
  refine j_dup dX11_init_44 trivial ?_
  refine j_callN (As := []) (S := [jR (some (s + 22)), jR (some s)]) (rc' := 138) (rs' := 6558) dX11_init_45 cnX11_19 rfl (Nat.le_of_ble_eq_true rfl) (by decide) (by decide) (sn_State (s := s + 22) hl28 hn28 v28) ?_
  have hl30 := len1 (x := (11, 8)) hl28
  have h0_30 := get_app (X := [(11, 8)]) h0_28
  have hl31 := len1 (x := (11, 56)) hl30
  have h0_31 := get_app (X := [(11, 56)]) h0_30
  have hl32 := len1 (x := (11, 8)) hl31
  have h0_32 := get_app (X := [(11, 8)]) h0_31
  have hl33 := len1 (x := (11, 8)) hl32
  have h0_33 := get_app (X := [(11, 8)]) h0_32
  have hl34 := len1 (x := (11, 8)) hl33
  have h0_34 := get_app (X := [(11, 8)]) h0_33
  have hl35 := len1 (x := (11, 8)) hl34
  have h0_35 := get_app (X := [(11, 8)]) h0_34
  have hl36 := len1 (x := (11, 64)) hl35
  have h0_36 := get_app (X := [(11, 64)]) h0_35
  have hl37 := len1 (x := (4, 0)) hl36
  have h0_37 := get_app (X := [(4, 0)]) h0_36
  have hl38 := len1 (x := (11, 240)) hl37
  have h0_38 := get_app (X := [(11, 240)]) h0_37
  have v38 := sn_State_Vg (s := s + 22) v28
  refine r_putFR dX11_init_48 flX11_27 rfl rfl rfl h0_38 ?_
  have v39 := Vg_F (i := s) (k := 5) (r := some (s + 22)) v38 (show s < s + 32 by omega)
  refine j_aload_n dX11_init_51 rfl ?_
  refine r_nob (ci := 5) (n := s + 32) 137 6555 dX11_init_52 (by decide) clX11_30 wi_5 wn_5 (by decide) (by decide) hl38 v39 ?_
  have hn40 := get_e (x := (5, 0)) hl38
  have hl40 := len1 (x := (5, 0)) hl38
  have h0_40 := get_app (X := [(5, 0)]) h0_38
  have v40 := Vg_m v39 (show s + 32 ≤ s + 33 by omega)
  refine j_dup dX11_init_55 trivial ?_
  refine j_callI (As := []) (S := [jR (some (s + 32)), jR (some s)]) (rc' := 16) (rs' := 1467) dX11_init_56 ciX11_32 rfl (Nat.le_of_ble_eq_true rfl) (by decide) (by decide) (sn_Mem (s := s + 32) hl40 hn40 v40) ?_
  have hl41 : _ = s + 154 := mm_len (s := s + 32) (j := 12) hl40
  have h0_41 := mm_get (j := 12) h0_40
  have v41 : Vg (s + 154) _ _ := mm_Vg (s := s + 32) (j := 12) v40
  refine r_putFR dX11_init_59 flX11_33 rfl rfl rfl h0_41 ?_
  have v42 := Vg_F (i := s) (k := 7) (r := some (s + 32)) v41 (show s < s + 154 by omega)
  refine j_aload_n dX11_init_62 rfl ?_
  refine r_nob (ci := 7) (n := s + 154) 15 1460 dX11_init_63 (by decide) clX11_37 wi_7 wn_7 (by decide) (by decide) hl41 v42 ?_
  have hn43 := get_e (x := (7, 0)) hl41
  have hl43 := len1 (x := (7, 0)) hl41
  have h0_43 := get_app (X := [(7, 0)]) h0_41
  have v43 := Vg_m v42 (show s + 154 ≤ s + 155 by omega)
  refine j_dup dX11_init_66 trivial ?_
  refine j_callN (As := []) (S := [jR (some (s + 154)), jR (some s)]) (rc' := 14) (rs' := 1060) dX11_init_67 cnX11_39 rfl (Nat.le_of_ble_eq_true rfl) (by decide) (by decide) (sn_Text (s := s + 154) hl43 hn43 v43) ?_
  have hl45 := len1 (x := (11, 400)) hl43
  have h0_45 := get_app (X := [(11, 400)]) h0_43
  have v45 := sn_Text_Vg (s := s + 154) v43
  refine r_putFR dX11_init_70 flX11_40 rfl rfl rfl h0_45 ?_
  have v46 := Vg_F (i := s) (k := 8) (r := some (s + 154)) v45 (show s < s + 156 by omega)
  refine j_aload_n dX11_init_73 rfl ?_
  refine r_nob (ci := 3) (n := s + 156) 13 1054 dX11_init_74 (by decide) clX11_44 wi_3 wn_3 (by decide) (by decide) hl45 v46 ?_
  have hn47 := get_e (x := (3, 0)) hl45
  have hl47 := len1 (x := (3, 0)) hl45
  have h0_47 := get_app (X := [(3, 0)]) h0_45
  have v47 := Vg_m v46 (show s + 156 ≤ s + 157 by omega)
  refine j_dup dX11_init_77 trivial ?_
  refine j_callN (As := []) (S := [jR (some (s + 156)), jR (some s)]) (rc' := 10) (rs' := 629) dX11_init_78 cnX11_46 rfl (Nat.le_of_ble_eq_true rfl) (by decide) (by decide) (sn_Read (s := s + 156) hl47 hn47 v47) ?_
  have hl49 := len1 (x := (11, 400)) hl47
  have h0_49 := get_app (X := [(11, 400)]) h0_47
  have hl50 := len1 (x := (11, 12)) hl49
  have h0_50 := get_app (X := [(11, 12)]) h0_49
  have hl51 := len1 (x := (11, 13)) hl50
  have h0_51 := get_app (X := [(11, 13)]) h0_50
  have v51 := sn_Read_Vg (s := s + 156) v47
  refine r_putFR dX11_init_81 flX11_47 rfl rfl rfl h0_51 ?_
  have v52 := Vg_F (i := s) (k := 9) (r := some (s + 156)) v51 (show s < s + 160 by omega)
  refine j_aload_n dX11_init_84 rfl ?_
  refine r_nob (ci := 0) (n := s + 160) 9 619 dX11_init_85 (by decide) clX11_51 wi_0 wn_0 (by decide) (by decide) hl51 v52 ?_
  have hn53 := get_e (x := (0, 0)) hl51
  have hl53 := len1 (x := (0, 0)) hl51
  have h0_53 := get_app (X := [(0, 0)]) h0_51
  have v53 := Vg_m v52 (show s + 160 ≤ s + 161 by omega)
  refine j_dup dX11_init_88 trivial ?_
  refine j_callN (As := []) (S := [jR (some (s + 160)), jR (some s)]) (rc' := 4) (rs' := 523) dX11_init_89 cnX11_53 rfl (Nat.le_of_ble_eq_true rfl) (by decide) (by decide) (sn_Cour (s := s + 160) hl53 hn53 v53) ?_
  have hl55 := len1 (x := (11, 8)) hl53
  have h0_55 := get_app (X := [(11, 8)]) h0_53
  have hl56 := len1 (x := (11, 8)) hl55
  have h0_56 := get_app (X := [(11, 8)]) h0_55
  have hl57 := len1 (x := (11, 8)) hl56
  have h0_57 := get_app (X := [(11, 8)]) h0_56
  have hl58 := len1 (x := (11, 8)) hl57
  have h0_58 := get_app (X := [(11, 8)]) h0_57
  have hl59 := len1 (x := (11, 64)) hl58
  have h0_59 := get_app (X := [(11, 64)]) h0_58
  have v59 := sn_Cour_Vg (s := s + 160) v53
  refine r_putFR dX11_init_92 flX11_54 rfl rfl rfl h0_59 ?_
  have v60 := Vg_F (i := s) (k := 10) (r := some (s + 160)) v59 (show s < s + 166 by omega)
  refine j_aload_n dX11_init_95 rfl ?_
  refine r_nob (ci := 1) (n := s + 166) 3 520 dX11_init_96 (by decide) clX11_58 wi_1 wn_1 (by decide) (by decide) hl59 v60 ?_
  have hn61 := get_e (x := (1, 0)) hl59
  have hl61 := len1 (x := (1, 0)) hl59
  have h0_61 := get_app (X := [(1, 0)]) h0_59
  have v61 := Vg_m v60 (show s + 166 ≤ s + 167 by omega)
  refine j_dup dX11_init_99 trivial ?_
  refine j_callN (As := []) (S := [jR (some (s + 166)), jR (some s)]) (rc' := 0) (rs' := 0) dX11_init_100 cnX11_60 rfl (Nat.le_of_ble_eq_true rfl) (by decide) (by decide) (sn_Debt (s := s + 166) hl61 hn61 v61) ?_
  have hl63 := len1 (x := (11, 8)) hl61
  have h0_63 := get_app (X := [(11, 8)]) h0_61
  have hl64 := len1 (x := (11, 256)) hl63
  have h0_64 := get_app (X := [(11, 256)]) h0_63
  have hl65 := len1 (x := (11, 256)) hl64
  have h0_65 := get_app (X := [(11, 256)]) h0_64
  have v65 := sn_Debt_Vg (s := s + 166) v61
  refine r_putFR dX11_init_103 flX11_61 rfl rfl rfl h0_65 ?_
  have v66 := Vg_F (i := s) (k := 11) (r := some (s + 166)) v65 (show s < s + 170 by omega)
  exact j_vret dX11_init_106 rfl ⟨rfl, rfl⟩
def moI (I : Nat → Int → Int) (s : Nat) : Nat → Int → Int := (jup (jup (jup (jup I s 14 (-1)) (s + 1) 4 999) (s + 1) 5 2) (s + 1) 11 1)
def moF (F : Nat → Int → Option Nat) (s : Nat) : Nat → Int → Option Nat := (jup (jup (jup (jup (jup (jup (jup (jup (jup (jup (jup (jup (jup F s 1 (some (s + 1))) s 2 (some (s + 2))) s 3 (some (s + 3))) s 4 (some (s + 4))) s 5 (some (s + 5))) s 8 (some (s + 6))) s 15 (some (s + 7))) s 17 (some (s + 8))) s 20 (some (s + 9))) s 21 (some (s + 10))) s 22 (some (s + 11))) s 23 (some (s + 12))) s 24 (some (s + 13)))
theorem sn_Model (hl : sh.length = s + 1) (h0 : sh[s]? = some (9, 0)) (v0 : Vg (s + 1) I F) : jS G d mX12_init [jR (some s)] (sh, I, F) 13 11209 (rV (sh ++ [(11, 2118)] ++ [(11, 1269)] ++ [(11, 1269)] ++ [(11, 420)] ++ [(11, 5040)] ++ [(10, 400)] ++ [(11, 5)] ++ [(11, 400)] ++ [(11, 8)] ++ [(11, 8)] ++ [(11, 8)] ++ [(11, 8)] ++ [(11, 256)], moI I s, moF F s)) := by
  refine jS_go [some (jR (some s))] (by decide +kernel) rfl (by simp [jone]) (Nat.le_of_ble_eq_true rfl) rfl (fun hok => ?_)
  refine j_aload_n dX12_init_0 rfl ?_
  refine r_objInit dX12_init_1 lmX12_7 (Nat.le_of_ble_eq_true rfl) ?_
  refine j_aload_n dX12_init_4 rfl ?_
  refine j_sipush dX12_init_5 rfl ?_
  refine r_nar (kd := 11) (t0 := 1) (ty := .int) (len := 2118) (n := s + 1) 12 9091 dX12_init_8 (Or.inr (Or.inl ⟨rfl, rfl, rfl⟩)) rfl wr_int rfl (by decide) (by decide) (by decide) hl v0 ?_
  have ha1_1 := get_e (x := (11, 2118)) hl
  have hl1 := len1 (x := (11, 2118)) hl
  have h0_1 := get_app (X := [(11, 2118)]) h0
  have v1 := Vg_m v0 (show s + 1 ≤ s + 2 by omega)
  refine r_putFR dX12_init_10 flX12_13 rfl rfl rfl h0_1 ?_
  have v2 := Vg_F (i := s) (k := 1) (r := some (s + 1)) v1 (show s < s + 2 by omega)
  refine j_aload_n dX12_init_13 rfl ?_
  refine j_sipush dX12_init_14 rfl ?_
  refine r_nar (kd := 11) (t0 := 1) (ty := .int) (len := 1269) (n := s + 2) 11 7822 dX12_init_17 (Or.inr (Or.inl ⟨rfl, rfl, rfl⟩)) rfl wr_int rfl (by decide) (by decide) (by decide) hl1 v2 ?_
  have hl3 := len1 (x := (11, 1269)) hl1
  have h0_3 := get_app (X := [(11, 1269)]) h0_1
  have v3 := Vg_m v2 (show s + 2 ≤ s + 3 by omega)
  have ha1_3 := get_app (X := [(11, 1269)]) ha1_1
  refine r_putFR dX12_init_19 flX12_17 rfl rfl rfl h0_3 ?_
  have v4 := Vg_F (i := s) (k := 2) (r := some (s + 2)) v3 (show s < s + 3 by omega)
  refine j_aload_n dX12_init_22 rfl ?_
  refine j_sipush dX12_init_23 rfl ?_
  refine r_nar (kd := 11) (t0 := 1) (ty := .int) (len := 1269) (n := s + 3) 10 6553 dX12_init_26 (Or.inr (Or.inl ⟨rfl, rfl, rfl⟩)) rfl wr_int rfl (by decide) (by decide) (by decide) hl3 v4 ?_
  have hl5 := len1 (x := (11, 1269)) hl3
  have h0_5 := get_app (X := [(11, 1269)]) h0_3
  have v5 := Vg_m v4 (show s + 3 ≤ s + 4 by omega)
  have ha1_5 := get_app (X := [(11, 1269)]) ha1_3
  refine r_putFR dX12_init_28 flX12_20 rfl rfl rfl h0_5 ?_
  have v6 := Vg_F (i := s) (k := 3) (r := some (s + 3)) v5 (show s < s + 4 by omega)
  refine j_aload_n dX12_init_31 rfl ?_
  refine j_sipush dX12_init_32 rfl ?_
  refine r_nar (kd := 11) (t0 := 1) (ty := .int) (len := 420) (n := s + 4) 9 6133 dX12_init_35 (Or.inr (Or.inl ⟨rfl, rfl, rfl⟩)) rfl wr_int rfl (by decide) (by decide) (by decide) hl5 v6 ?_
  have hl7 := len1 (x := (11, 420)) hl5
  have h0_7 := get_app (X := [(11, 420)]) h0_5
  have v7 := Vg_m v6 (show s + 4 ≤ s + 5 by omega)
  have ha1_7 := get_app (X := [(11, 420)]) ha1_5
  refine r_putFR dX12_init_37 flX12_23 rfl rfl rfl h0_7 ?_
  have v8 := Vg_F (i := s) (k := 4) (r := some (s + 4)) v7 (show s < s + 5 by omega)
  refine j_aload_n dX12_init_40 rfl ?_
  refine j_sipush dX12_init_41 rfl ?_
  refine r_nar (kd := 11) (t0 := 1) (ty := .int) (len := 5040) (n := s + 5) 8 1093 dX12_init_44 (Or.inr (Or.inl ⟨rfl, rfl, rfl⟩)) rfl wr_int rfl (by decide) (by decide) (by decide) hl7 v8 ?_
  have hl9 := len1 (x := (11, 5040)) hl7
  have h0_9 := get_app (X := [(11, 5040)]) h0_7
  have v9 := Vg_m v8 (show s + 5 ≤ s + 6 by omega)
  have ha1_9 := get_app (X := [(11, 5040)]) ha1_7
  refine r_putFR dX12_init_46 flX12_26 rfl rfl rfl h0_9 ?_
  have v10 := Vg_F (i := s) (k := 5) (r := some (s + 5)) v9 (show s < s + 6 by omega)
  refine j_aload_n dX12_init_49 rfl ?_
  refine j_sipush dX12_init_50 rfl ?_
  refine r_nar (kd := 10) (t0 := 0) (ty := .byte) (len := 400) (n := s + 6) 7 693 dX12_init_53 (Or.inl ⟨rfl, rfl, rfl⟩) rfl wr_byte rfl (by decide) (by decide) (by decide) hl9 v10 ?_
  have hl11 := len1 (x := (10, 400)) hl9
  have h0_11 := get_app (X := [(10, 400)]) h0_9
  have v11 := Vg_m v10 (show s + 6 ≤ s + 7 by omega)
  have ha1_11 := get_app (X := [(10, 400)]) ha1_9
  refine r_putFR dX12_init_55 flX12_29 rfl rfl rfl h0_11 ?_
  have v12 := Vg_F (i := s) (k := 8) (r := some (s + 6)) v11 (show s < s + 7 by omega)
  refine j_aload_n dX12_init_58 rfl ?_
  refine j_iconst dX12_init_59 ?_
  refine r_putI dX12_init_60 flX12_33 rfl h0_11 (by decide) (fun q => by cases q) ?_
  have v13 := Vg_I (i := s) (k := 14) (z := (-1)) v12 (show s < s + 7 by omega)
  refine j_aload_n dX12_init_63 rfl ?_
  refine j_iconst dX12_init_64 ?_
  refine r_nar (kd := 11) (t0 := 1) (ty := .int) (len := 5) (n := s + 7) 6 688 dX12_init_65 (Or.inr (Or.inl ⟨rfl, rfl, rfl⟩)) rfl wr_int rfl (by decide) (by decide) (by decide) hl11 v13 ?_
  have hl14 := len1 (x := (11, 5)) hl11
  have h0_14 := get_app (X := [(11, 5)]) h0_11
  have v14 := Vg_m v13 (show s + 7 ≤ s + 8 by omega)
  have ha1_14 := get_app (X := [(11, 5)]) ha1_11
  refine r_putFR dX12_init_67 flX12_36 rfl rfl rfl h0_14 ?_
  have v15 := Vg_F (i := s) (k := 15) (r := some (s + 7)) v14 (show s < s + 8 by omega)
  refine j_aload_n dX12_init_70 rfl ?_
  refine j_sipush dX12_init_71 rfl ?_
  refine r_nar (kd := 11) (t0 := 1) (ty := .int) (len := 400) (n := s + 8) 5 288 dX12_init_74 (Or.inr (Or.inl ⟨rfl, rfl, rfl⟩)) rfl wr_int rfl (by decide) (by decide) (by decide) hl14 v15 ?_
  have hl16 := len1 (x := (11, 400)) hl14
  have h0_16 := get_app (X := [(11, 400)]) h0_14
  have v16 := Vg_m v15 (show s + 8 ≤ s + 9 by omega)
  have ha1_16 := get_app (X := [(11, 400)]) ha1_14
  refine r_putFR dX12_init_76 flX12_39 rfl rfl rfl h0_16 ?_
  have v17 := Vg_F (i := s) (k := 17) (r := some (s + 8)) v16 (show s < s + 9 by omega)
  refine j_aload_n dX12_init_79 rfl ?_
  refine j_bipush dX12_init_80 rfl ?_
  refine r_nar (kd := 11) (t0 := 1) (ty := .int) (len := 8) (n := s + 9) 4 280 dX12_init_82 (Or.inr (Or.inl ⟨rfl, rfl, rfl⟩)) rfl wr_int rfl (by decide) (by decide) (by decide) hl16 v17 ?_
  have hl18 := len1 (x := (11, 8)) hl16
  have h0_18 := get_app (X := [(11, 8)]) h0_16
  have v18 := Vg_m v17 (show s + 9 ≤ s + 10 by omega)
  have ha1_18 := get_app (X := [(11, 8)]) ha1_16
  refine r_putFR dX12_init_84 flX12_42 rfl rfl rfl h0_18 ?_
  have v19 := Vg_F (i := s) (k := 20) (r := some (s + 9)) v18 (show s < s + 10 by omega)
  refine j_aload_n dX12_init_87 rfl ?_
  refine j_bipush dX12_init_88 rfl ?_
  refine r_nar (kd := 11) (t0 := 1) (ty := .int) (len := 8) (n := s + 10) 3 272 dX12_init_90 (Or.inr (Or.inl ⟨rfl, rfl, rfl⟩)) rfl wr_int rfl (by decide) (by decide) (by decide) hl18 v19 ?_
  have hl20 := len1 (x := (11, 8)) hl18
  have h0_20 := get_app (X := [(11, 8)]) h0_18
  have v20 := Vg_m v19 (show s + 10 ≤ s + 11 by omega)
  have ha1_20 := get_app (X := [(11, 8)]) ha1_18
  refine r_putFR dX12_init_92 flX12_45 rfl rfl rfl h0_20 ?_
  have v21 := Vg_F (i := s) (k := 21) (r := some (s + 10)) v20 (show s < s + 11 by omega)
  refine j_aload_n dX12_init_95 rfl ?_
  refine j_bipush dX12_init_96 rfl ?_
  refine r_nar (kd := 11) (t0 := 1) (ty := .int) (len := 8) (n := s + 11) 2 264 dX12_init_98 (Or.inr (Or.inl ⟨rfl, rfl, rfl⟩)) rfl wr_int rfl (by decide) (by decide) (by decide) hl20 v21 ?_
  have hl22 := len1 (x := (11, 8)) hl20
  have h0_22 := get_app (X := [(11, 8)]) h0_20
  have v22 := Vg_m v21 (show s + 11 ≤ s + 12 by omega)
  have ha1_22 := get_app (X := [(11, 8)]) ha1_20
  refine r_putFR dX12_init_100 flX12_48 rfl rfl rfl h0_22 ?_
  have v23 := Vg_F (i := s) (k := 22) (r := some (s + 11)) v22 (show s < s + 12 by omega)
  refine j_aload_n dX12_init_103 rfl ?_
  refine j_bipush dX12_init_104 rfl ?_
  refine r_nar (kd := 11) (t0 := 1) (ty := .int) (len := 8) (n := s + 12) 1 256 dX12_init_106 (Or.inr (Or.inl ⟨rfl, rfl, rfl⟩)) rfl wr_int rfl (by decide) (by decide) (by decide) hl22 v23 ?_
  have hl24 := len1 (x := (11, 8)) hl22
  have h0_24 := get_app (X := [(11, 8)]) h0_22
  have v24 := Vg_m v23 (show s + 12 ≤ s + 13 by omega)
  have ha1_24 := get_app (X := [(11, 8)]) ha1_22
  refine r_putFR dX12_init_108 flX12_51 rfl rfl rfl h0_24 ?_
  have v25 := Vg_F (i := s) (k := 23) (r := some (s + 12)) v24 (show s < s + 13 by omega)
  refine j_aload_n dX12_init_111 rfl ?_
  refine j_sipush dX12_init_112 rfl ?_
  refine r_nar (kd := 11) (t0 := 1) (ty := .int) (len := 256) (n := s + 13) 0 0 dX12_init_115 (Or.inr (Or.inl ⟨rfl, rfl, rfl⟩)) rfl wr_int rfl (by decide) (by decide) (by decide) hl24 v25 ?_
  have hl26 := len1 (x := (11, 256)) hl24
  have h0_26 := get_app (X := [(11, 256)]) h0_24
  have v26 := Vg_m v25 (show s + 13 ≤ s + 14 by omega)
  have ha1_26 := get_app (X := [(11, 256)]) ha1_24
  refine r_putFR dX12_init_117 flX12_54 rfl rfl rfl h0_26 ?_
  have v27 := Vg_F (i := s) (k := 24) (r := some (s + 13)) v26 (show s < s + 14 by omega)
  refine j_aload_n dX12_init_120 rfl ?_
  refine r_getS dX12_init_121 flX12_13 h0_26 (a := s + 1) (by simp [jup]) ?_
  refine j_iconst dX12_init_124 ?_
  refine j_sipush dX12_init_125 rfl ?_
  refine r_iastore (i := s + 1) (len := 2118) dX12_init_128 ha1_26 (by decide) (by decide) (by decide) ?_
  refine j_aload_n dX12_init_129 rfl ?_
  refine r_getS dX12_init_130 flX12_13 h0_26 (a := s + 1) (by simp [jup]) ?_
  refine j_iconst dX12_init_133 ?_
  refine j_iconst dX12_init_134 ?_
  refine r_iastore (i := s + 1) (len := 2118) dX12_init_135 ha1_26 (by decide) (by decide) (by decide) ?_
  refine j_aload_n dX12_init_136 rfl ?_
  refine r_getS dX12_init_137 flX12_13 h0_26 (a := s + 1) (by simp [jup]) ?_
  refine j_bipush dX12_init_140 rfl ?_
  refine j_iconst dX12_init_142 ?_
  refine r_iastore (i := s + 1) (len := 2118) dX12_init_143 ha1_26 (by decide) (by decide) (by decide) ?_
  exact j_vret dX12_init_144 rfl ⟨rfl, rfl⟩
end
