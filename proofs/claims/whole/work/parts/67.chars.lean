/-! TEXTS AND THEIR CHARACTERS -/
theorem kj_38 : Cond.fieldLink "java/lang/String" 38 "java/lang/String" "COMPACT_STRINGS" "Z" ∈ lw_good := lw_in 768 (by decide +kernel) (by decide +kernel)
theorem kj_1053 : Cond.fieldLink "java/lang/String" 1053 "jdk/internal/util/Preconditions" "SIOOBE_FORMATTER" "Ljava/util/function/BiFunction;" ∈ lw_good := lw_in 784 (by decide +kernel) (by decide +kernel)
theorem kj_9 : Cond.fieldLink "java/lang/String" 9 "java/lang/String" "value" "[B" ∈ lw_good := lw_in 2046 (by decide +kernel) (by decide +kernel)
theorem kj_15 : Cond.fieldLink "java/lang/String" 15 "java/lang/String" "coder" "B" ∈ lw_good := lw_in 2047 (by decide +kernel) (by decide +kernel)
section
variable {G : jzG} {M : jzM} {d pc rc rs : Nat} {Q : jzO → jzH → Prop} {L : List (Option jzV)} {S : List jzV} {sh : List (Nat × Nat)} {I : Nat → Int → Int} {F : Nat → Int → Option Nat}
theorem r_cx0I {r : Int} {M' : jzM} {idx k0 : Nat} (hd : decode M.2.1 pc = .ok (.invokevirtual idx, 3)) (hw : jCV M.1.cls idx "java/lang/String" 0 M') (hk : k0 < 33) (h8 : (S.map jct).sum ≤ 8) (sp : jS G d M' [jX (k0 + 1)] (sh, I, F) 0 0 (rI r (sh, I, F))) (k : jW G M (d + 1) Q (pc + 3) L (jI r :: S) (sh, I, F) rc rs) : jW G M (d + 1) Q pc L (jX (k0 + 1) :: S) (sh, I, F) rc rs :=
  j_callX (As := []) hd hw hk rfl h8 (Nat.le_of_eq (Nat.zero_add _)) (Nat.le_of_eq (Nat.zero_add _)) (jS_mono sp (fun o h hq => by obtain ⟨rfl, rfl⟩ := hq; exact k))
theorem r_cx1I {r : Int} {v1 : jzV} {M' : jzM} {idx k0 : Nat} (hd : decode M.2.1 pc = .ok (.invokevirtual idx, 3)) (hw : jCV M.1.cls idx "java/lang/String" 1 M') (hk : k0 < 33) (h8 : (S.map jct).sum ≤ 8) (sp : jS G d M' [jX (k0 + 1), v1] (sh, I, F) 0 0 (rI r (sh, I, F))) (k : jW G M (d + 1) Q (pc + 3) L (jI r :: S) (sh, I, F) rc rs) : jW G M (d + 1) Q pc L (v1 :: jX (k0 + 1) :: S) (sh, I, F) rc rs :=
  j_callX (As := [v1]) hd hw hk rfl h8 (Nat.le_of_eq (Nat.zero_add _)) (Nat.le_of_eq (Nat.zero_add _)) (jS_mono sp (fun o h hq => by obtain ⟨rfl, rfl⟩ := hq; exact k))
end
abbrev txL (t : Nat) : Int := ((jzBy.getD t []).length : Int)
abbrev txC (t : Nat) (i : Int) : Int := (((jzBy.getD t []).getD i.toNat 0 : Nat) : Int)
theorem tx_ok : ∀ t, t < 33 → ∀ i, i < 100 → (jzBy.getD t []).getD i 0 < 128 := by decide +kernel
theorem narrow_ch {z : Int} (h0 : 0 ≤ z) (h1 : z < 65536) : narrow .char (.int (Int32.ofInt z)) = .int (Int32.ofInt z) := by
  obtain ⟨n, rfl⟩ := Int.eq_ofNat_of_zero_le h0
  rw [Int32.ofInt_eq_ofNat]
  show Value.int ((nI n).toUInt32 % 65536).toInt32 = Value.int (nI n)
  rw [pk_char, pk_tn (by omega), Nat.mod_eq_of_lt (by omega)]
section
variable {G : jzG} {d : Nat} {sh : List (Nat × Nat)} {I : Nat → Int → Int} {F : Nat → Int → Option Nat}
theorem sj_coder {t : Nat} (ht : t < 33) : jS G d mJ0_coder_7d493 [jX (t + 1)] (sh, I, F) 0 0 (rI 0 (sh, I, F)) := by
  refine jS_go [some (jX (t + 1))] (by decide +kernel) rfl (by simp [jone]) (Nat.le_of_ble_eq_true rfl) rfl (fun hok => ?_)
  refine j_scmp dJ0_coder_7d493_0 kj_38 ?_
  refine j_if_eq (tgt := 13) dJ0_coder_7d493_3 rfl (by decide) (fun c => absurd c (by decide)) (fun _ => ?_)
  refine j_aload_n dJ0_coder_7d493_6 rfl ?_
  refine j_scod dJ0_coder_7d493_7 ht kj_15 ?_
  refine j_goto (tgt := 14) dJ0_coder_7d493_10 rfl ?_
  exact j_gret dJ0_coder_7d493_14 rfl rfl (rI_of rfl rfl)
theorem sj_length {t : Nat} (ht : t < 33) : jS G (d + 1) mJ0_length_8abf5 [jX (t + 1)] (sh, I, F) 0 0 (rI (txL t) (sh, I, F)) := by
  have hl := jzBy_len t ht
  have eL : txL t = ((jzBy.getD t []).length : Int) := rfl
  refine jS_go [some (jX (t + 1))] (by decide +kernel) rfl (by simp [jone]) (Nat.le_of_ble_eq_true rfl) rfl (fun hok => ?_)
  refine j_aload_n dJ0_length_8abf5_0 rfl ?_
  refine j_sval dJ0_length_8abf5_1 ht kj_9 ?_
  refine j_tlen dJ0_length_8abf5_4 ht ?_
  refine j_aload_n dJ0_length_8abf5_5 rfl ?_
  refine r_cx0I dJ0_length_8abf5_6 cvJ0_335 ht (Nat.le_of_ble_eq_true rfl) (sj_coder ht) ?_
  refine r_ishr dJ0_length_8abf5_9 (fun b => ?_)
  rw [(jShr_e (x := txL t) (by omega)).2.2.2]
  exact j_iret dJ0_length_8abf5_10 rfl (rI_of rfl rfl)
theorem sj_isLatin1 {t : Nat} (ht : t < 33) : jS G d mJ0_isLatin1_aae02 [jX (t + 1)] (sh, I, F) 0 0 (rI 1 (sh, I, F)) := by
  refine jS_go [some (jX (t + 1))] (by decide +kernel) rfl (by simp [jone]) (Nat.le_of_ble_eq_true rfl) rfl (fun hok => ?_)
  refine j_scmp dJ0_isLatin1_aae02_0 kj_38 ?_
  refine j_if_eq (tgt := 17) dJ0_isLatin1_aae02_3 rfl (by decide) (fun c => absurd c (by decide)) (fun _ => ?_)
  refine j_aload_n dJ0_isLatin1_aae02_6 rfl ?_
  refine j_scod dJ0_isLatin1_aae02_7 ht kj_15 ?_
  refine j_if_ne (tgt := 17) dJ0_isLatin1_aae02_10 rfl (by decide) (fun c => absurd rfl c) (fun _ => ?_)
  refine j_iconst dJ0_isLatin1_aae02_13 ?_
  refine j_goto (tgt := 18) dJ0_isLatin1_aae02_14 rfl ?_
  exact j_zret dJ0_isLatin1_aae02_18 rfl (Or.inr rfl) (rI_of rfl rfl)
theorem sj_check3 {i n : Int} (h : 0 ≤ i ∧ i < n) (hn : n < 1000) : jS G d mJ3_checkIndex_8e157 [jI i, jI n, jX 2000] (sh, I, F) 0 0 (rI i (sh, I, F)) := by
  refine jS_go [some (jI i), some (jI n), some (jX 2000)] (by decide +kernel) rfl (by simp [jone]) (Nat.le_of_ble_eq_true rfl) rfl (fun hok => ?_)
  refine j_iload_n dJ3_checkIndex_8e157_0 rfl ?_
  refine j_if_lt (tgt := 9) dJ3_checkIndex_8e157_1 rfl (by omega) (fun c => absurd c (by omega)) (fun _ => ?_)
  refine j_iload_n dJ3_checkIndex_8e157_4 rfl ?_
  refine j_iload_n dJ3_checkIndex_8e157_5 rfl ?_
  refine j_icmp_lt (tgt := 16) dJ3_checkIndex_8e157_6 rfl (by omega) (by omega) (fun _ => ?_) (fun c => absurd (by omega) c)
  refine j_iload_n dJ3_checkIndex_8e157_16 rfl ?_
  exact j_iret dJ3_checkIndex_8e157_17 rfl (rI_of rfl rfl)
theorem sj_check3n {i n : Int} (h : 0 ≤ i ∧ i < n) (hn : n < 1000) : jS G d mJ3_checkIndex_8e157 [jI i, jI n, jR none] (sh, I, F) 0 0 (rI i (sh, I, F)) := by
  refine jS_go [some (jI i), some (jI n), some (jR none)] (by decide +kernel) rfl (by simp [jone]) (Nat.le_of_ble_eq_true rfl) rfl (fun hok => ?_)
  refine j_iload_n dJ3_checkIndex_8e157_0 rfl ?_
  refine j_if_lt (tgt := 9) dJ3_checkIndex_8e157_1 rfl (by omega) (fun c => absurd c (by omega)) (fun _ => ?_)
  refine j_iload_n dJ3_checkIndex_8e157_4 rfl ?_
  refine j_iload_n dJ3_checkIndex_8e157_5 rfl ?_
  refine j_icmp_lt (tgt := 16) dJ3_checkIndex_8e157_6 rfl (by omega) (by omega) (fun _ => ?_) (fun c => absurd (by omega) c)
  refine j_iload_n dJ3_checkIndex_8e157_16 rfl ?_
  exact j_iret dJ3_checkIndex_8e157_17 rfl (rI_of rfl rfl)
theorem sj_check {i n : Int} (h : 0 ≤ i ∧ i < n) (hn : n < 1000) : jS G (d + 1) mJ0_checkIndex_df160 [jI i, jI n] (sh, I, F) 0 0 (rV (sh, I, F)) := by
  refine jS_go [some (jI i), some (jI n)] (by decide +kernel) rfl (by simp [jone]) (Nat.le_of_ble_eq_true rfl) rfl (fun hok => ?_)
  refine j_iload_n dJ0_checkIndex_df160_0 rfl ?_
  refine j_iload_n dJ0_checkIndex_df160_1 rfl ?_
  refine j_sfmt dJ0_checkIndex_df160_2 kj_1053 ?_ ?_
  · refine r_cs3I dJ0_checkIndex_df160_5 csJ0_1059 (Nat.le_of_ble_eq_true rfl) (Nat.le_of_eq (Nat.zero_add _)) (Nat.le_of_eq (Nat.zero_add _)) (sj_check3n h hn) ?_
    refine j_pop dJ0_checkIndex_df160_8 trivial ?_
    exact j_vret dJ0_checkIndex_df160_9 rfl (rV_of rfl)
  · refine r_cs3I dJ0_checkIndex_df160_5 csJ0_1059 (Nat.le_of_ble_eq_true rfl) (Nat.le_of_eq (Nat.zero_add _)) (Nat.le_of_eq (Nat.zero_add _)) (sj_check3 h hn) ?_
    refine j_pop dJ0_checkIndex_df160_8 trivial ?_
    exact j_vret dJ0_checkIndex_df160_9 rfl (rV_of rfl)
theorem sj_charAt1 {t : Nat} (ht : t < 33) {i : Int} (h : 0 ≤ i ∧ i < txL t) : jS G (d + 2) mJ1_charAt_3b067 [jX (t + 1001), jI i] (sh, I, F) 0 0 (rI (txC t i) (sh, I, F)) := by
  have hl := jzBy_len t ht
  have eL : txL t = ((jzBy.getD t []).length : Int) := rfl
  have hc := tx_ok t ht i.toNat (by omega)
  have eC : txC t i = (((jzBy.getD t []).getD i.toNat 0 : Nat) : Int) := rfl
  refine jS_go [some (jX (t + 1001)), some (jI i)] (by decide +kernel) rfl (by simp [jone]) (Nat.le_of_ble_eq_true rfl) rfl (fun hok => ?_)
  refine j_iload_n dJ1_charAt_3b067_0 rfl ?_
  refine j_aload_n dJ1_charAt_3b067_1 rfl ?_
  refine j_tlen dJ1_charAt_3b067_2 ht ?_
  refine r_cs2V dJ1_charAt_3b067_3 csJ1_9 (Nat.le_of_ble_eq_true rfl) (Nat.le_of_eq (Nat.zero_add _)) (Nat.le_of_eq (Nat.zero_add _)) (sj_check h (by omega)) ?_
  refine j_aload_n dJ1_charAt_3b067_6 rfl ?_
  refine j_iload_n dJ1_charAt_3b067_7 rfl ?_
  refine j_tbald dJ1_charAt_3b067_8 ht h.1 h.2 ?_
  refine j_sipush dJ1_charAt_3b067_9 (by decide) ?_
  refine r_iand dJ1_charAt_3b067_12 (fun b => ?_)
  have e : jAnd (txC t i) 255 = txC t i := by rw [jAnd_255]; omega
  rw [e]
  refine j_i2c dJ1_charAt_3b067_13 (by omega) (by omega) ?_
  exact j_gret dJ1_charAt_3b067_14 rfl (narrow_ch (by omega) (by omega)) (rI_of rfl rfl)
theorem sj_charAt {t : Nat} (ht : t < 33) {i : Int} (h : 0 ≤ i ∧ i < txL t) : jS G (d + 3) mJ0_charAt_5068e [jX (t + 1), jI i] (sh, I, F) 0 0 (rI (txC t i) (sh, I, F)) := by
  have hl := jzBy_len t ht
  have eL : txL t = ((jzBy.getD t []).length : Int) := rfl
  have hc := tx_ok t ht i.toNat (by omega)
  have eC : txC t i = (((jzBy.getD t []).getD i.toNat 0 : Nat) : Int) := rfl
  refine jS_go [some (jX (t + 1)), some (jI i)] (by decide +kernel) rfl (by simp [jone]) (Nat.le_of_ble_eq_true rfl) rfl (fun hok => ?_)
  refine j_aload_n dJ0_charAt_5068e_0 rfl ?_
  refine r_cx0I dJ0_charAt_5068e_1 cvJ0_492 ht (Nat.le_of_ble_eq_true rfl) (sj_isLatin1 ht) ?_
  refine j_if_eq (tgt := 16) dJ0_charAt_5068e_4 rfl (by decide) (fun c => absurd c (by decide)) (fun _ => ?_)
  refine j_aload_n dJ0_charAt_5068e_7 rfl ?_
  refine j_sval dJ0_charAt_5068e_8 ht kj_9 ?_
  refine j_iload_n dJ0_charAt_5068e_11 rfl ?_
  refine r_cs2I dJ0_charAt_5068e_12 csJ0_495 (Nat.le_of_ble_eq_true rfl) (Nat.le_of_eq (Nat.zero_add _)) (Nat.le_of_eq (Nat.zero_add _)) (sj_charAt1 ht h) ?_
  exact j_gret dJ0_charAt_5068e_15 rfl (narrow_ch (by omega) (by omega)) (rI_of rfl rfl)
end
