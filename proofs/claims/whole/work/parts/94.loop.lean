/-! THE LAW'S LOOP -/
def mL_law_ : jzM := (yL_law_, cL_law_, 7, some .boolean, [])
def scr (G : jzG) (k : Int) : Int := (G.2.2.2.2 k.toNat).toInt
theorem scr_in (G : jzG) (k : Int) : jin (scr G k) := jn_rng _
abbrev lL (i : Int) (u v : Option jzV) : List (Option jzV) := [some (jX 0), some (jR (some 0)), some (jR (some 170)), some (jR (some 184)), some (jI i), u, v]
section
variable {G : jzG} {d pc rc rs : Nat} {Q : jzO → jzH → Prop} {S : List jzV} {h : jzH} {i : Int} {u v : Option jzV}
theorem l_arg {j : Int} (d0 : decode cL_law_ pc = .ok (.aload_n 0, 1)) (d1 : decode cL_law_ (pc + 1) = .ok (.iload 4, 2)) (d3 : decode cL_law_ (pc + 3) = .ok (.iconst j, 1)) (d4 : decode cL_law_ (pc + 4) = .ok (.iadd, 1)) (d5 : decode cL_law_ (pc + 5) = .ok (.iaload, 1)) (h0 : 0 ≤ i + j) (h1 : i + j < G.2.2.2.1) (hn : G.2.2.2.1 < 2 ^ 31) (k : jW G mL_law_ d Q (pc + 6) (lL i u v) (jI (scr G (i + j)) :: S) h rc rs) : jW G mL_law_ d Q pc (lL i u v) S h rc rs := by
  refine j_aload_n (M := mL_law_) d0 rfl ?_
  refine j_iload (M := mL_law_) d1 rfl ?_
  refine j_iconst (M := mL_law_) d3 ?_
  refine j_iadd (M := mL_law_) d4 ?_
  exact j_sld (M := mL_law_) d5 h0 h1 hn k
end
/-- the rows that hold the two answers together -/
def lTl (pc : Nat) (off : Int) : Prop := decode cL_law_ pc = .ok (.istore 6, 2) ∧ decode cL_law_ (pc + 2) = .ok (.aload_n 2, 1) ∧ decode cL_law_ (pc + 3) = .ok (.invokevirtual 136, 3) ∧ decode cL_law_ (pc + 6) = .ok (.iload 5, 2) ∧ decode cL_law_ (pc + 8) = .ok (.if_icmp .eq 5, 3) ∧ decode cL_law_ (pc + 13) = .ok (.iload 5, 2) ∧ decode cL_law_ (pc + 15) = .ok (.ifCond .ne 15, 3) ∧ decode cL_law_ (pc + 18) = .ok (.aload_n 3, 1) ∧ decode cL_law_ (pc + 19) = .ok (.iconst 0, 1) ∧ decode cL_law_ (pc + 20) = .ok (.laload, 1) ∧ decode cL_law_ (pc + 21) = .ok (.iload 6, 2) ∧ decode cL_law_ (pc + 23) = .ok (.i2l, 1) ∧ decode cL_law_ (pc + 24) = .ok (.lcmp, 1) ∧ decode cL_law_ (pc + 25) = .ok (.ifCond .eq 5, 3) ∧ decode cL_law_ (pc + 30) = .ok (.goto off, 3)
def lTz (pc : Nat) (off : Int) : Prop := decode cL_law_ pc = .ok (.istore 6, 2) ∧ decode cL_law_ (pc + 2) = .ok (.aload_n 2, 1) ∧ decode cL_law_ (pc + 3) = .ok (.invokevirtual 136, 3) ∧ decode cL_law_ (pc + 6) = .ok (.iload 5, 2) ∧ decode cL_law_ (pc + 8) = .ok (.if_icmp .eq 5, 3) ∧ decode cL_law_ (pc + 13) = .ok (.iload 5, 2) ∧ decode cL_law_ (pc + 15) = .ok (.ifCond .ne 22, 3) ∧ decode cL_law_ (pc + 18) = .ok (.aload_n 3, 1) ∧ decode cL_law_ (pc + 19) = .ok (.iconst 0, 1) ∧ decode cL_law_ (pc + 20) = .ok (.laload, 1) ∧ decode cL_law_ (pc + 21) = .ok (.iload 6, 2) ∧ decode cL_law_ (pc + 23) = .ok (.ifCond .eq 7, 3) ∧ decode cL_law_ (pc + 26) = .ok (.lconst 1, 1) ∧ decode cL_law_ (pc + 27) = .ok (.goto 4, 3) ∧ decode cL_law_ (pc + 30) = .ok (.lconst 0, 1) ∧ decode cL_law_ (pc + 31) = .ok (.lcmp, 1) ∧ decode cL_law_ (pc + 32) = .ok (.ifCond .eq 5, 3) ∧ decode cL_law_ (pc + 37) = .ok (.goto off, 3)
section
variable {G : jzG} {pc rc rs : Nat} {Q : jzO → jzH → Prop} {sh X : List (Nat × Nat)} {I J K M' : Nat → Int → Int} {F F' : Nat → Int → Option Nat} {b i c r : Int} {u v : Option jzV}
theorem l_tail {off : Int} (hT : lTl pc off) (ho : (pc : Int) + 30 + off = 2755) (hsh : ShOK sh) (hc : K 170 0 = c) (hr : c = 0 → K 184 0 = jwr r) (k : jW G mL_law_ 42 Q 2755 (lL i none none) [] (sh, K, F) rc rs) : jW G mL_law_ 42 Q pc (lL i (some (jI c)) u) [jI r] (sh, K, F) rc rs := by
  obtain ⟨d0, d2, d3, d6, d8, d13, d15, d18, d19, d20, d21, d23, d24, d25, d30⟩ := hT
  refine jW_ok (fun hok => ?_)
  have jc : jin c := by rw [← hc]; exact hok.2.1 _ _
  have k2 : jW G mL_law_ 42 Q (pc + 30) (lL i (some (jI c)) (some (jI r))) [] (sh, K, F) rc rs := by
    refine j_goto (M := mL_law_) (tgt := 2755) d30 (by omega) ?_
    refine j_locals (L' := lL i none none) (fun j w hj => ?_) k
    rcases j with _ | _ | _ | _ | _ | _ | _ | j <;> first | exact hj | cases hj
  refine j_istore (M := mL_law_) d0 (by decide) ?_
  refine j_aload_n (M := mL_law_) d2 rfl ?_
  refine j_callV2 (M := mL_law_) (d' := 0) (n := 0) (As := []) (S := []) (mc' := 0) (ms' := 0) (rc' := rc) (rs' := rs) d3 cvL_136 (by decide) (by decide) (hsh 170 _ rfl) rfl (Nat.le_of_ble_eq_true rfl) (by omega) (by omega) (jS_mono (sm_thrown hsh) ?_)
  rintro o h ⟨rfl, rfl⟩
  rw [hc]
  refine j_iload (M := mL_law_) (pc := pc + 6) (L := lL i (some (jI c)) (some (jI r))) d6 rfl ?_
  refine j_icmp_eq (M := mL_law_) (tgt := pc + 13) d8 (by omega) jc jc (fun _ => ?_) (fun z => absurd rfl z)
  refine j_iload (M := mL_law_) d13 rfl ?_
  refine j_if_ne (M := mL_law_) (tgt := pc + 30) d15 (by omega) jc (fun _ => k2) (fun z => ?_)
  have c0 : c = 0 := by omega
  refine j_aload_n (M := mL_law_) d18 rfl ?_
  refine j_iconst (M := mL_law_) d19 ?_
  refine j_laload (M := mL_law_) (i := 184) (len := 1) d20 (hsh 184 _ rfl) (by decide) (by decide) (fun _ => ?_)
  refine j_iload (M := mL_law_) d21 rfl ?_
  refine j_i2l (M := mL_law_) d23 ?_
  refine j_lcmp (M := mL_law_) d24 (hr c0) ?_
  exact j_if_eq (M := mL_law_) (tgt := pc + 30) d25 (by omega) (by decide) (fun _ => k2) (fun z => absurd rfl z)
theorem l_tailz {off : Int} (hT : lTz pc off) (ho : (pc : Int) + 37 + off = 2755) (hsh : ShOK sh) (hc : K 170 0 = c) (hr : c = 0 → K 184 0 = jnz (jwr r)) (k : jW G mL_law_ 42 Q 2755 (lL i none none) [] (sh, K, F) rc rs) : jW G mL_law_ 42 Q pc (lL i (some (jI c)) u) [jI r] (sh, K, F) rc rs := by
  obtain ⟨d0, d2, d3, d6, d8, d13, d15, d18, d19, d20, d21, d23, d26, d27, d30, d31, d32, d37⟩ := hT
  refine jW_ok (fun hok => ?_)
  have jc : jin c := by rw [← hc]; exact hok.2.1 _ _
  have k2 : jW G mL_law_ 42 Q (pc + 37) (lL i (some (jI c)) (some (jI r))) [] (sh, K, F) rc rs := by
    refine j_goto (M := mL_law_) (tgt := 2755) d37 (by omega) ?_
    refine j_locals (L' := lL i none none) (fun j w hj => ?_) k
    rcases j with _ | _ | _ | _ | _ | _ | _ | j <;> first | exact hj | cases hj
  refine j_istore (M := mL_law_) d0 (by decide) ?_
  refine j_aload_n (M := mL_law_) d2 rfl ?_
  refine j_callV2 (M := mL_law_) (d' := 0) (n := 0) (As := []) (S := []) (mc' := 0) (ms' := 0) (rc' := rc) (rs' := rs) d3 cvL_136 (by decide) (by decide) (hsh 170 _ rfl) rfl (Nat.le_of_ble_eq_true rfl) (by omega) (by omega) (jS_mono (sm_thrown hsh) ?_)
  rintro o h ⟨rfl, rfl⟩
  rw [hc]
  refine j_iload (M := mL_law_) (pc := pc + 6) (L := lL i (some (jI c)) (some (jI r))) d6 rfl ?_
  refine j_icmp_eq (M := mL_law_) (tgt := pc + 13) d8 (by omega) jc jc (fun _ => ?_) (fun z => absurd rfl z)
  refine j_iload (M := mL_law_) d13 rfl ?_
  refine j_if_ne (M := mL_law_) (tgt := pc + 37) d15 (by omega) jc (fun _ => k2) (fun z => ?_)
  have c0 : c = 0 := by omega
  refine j_aload_n (M := mL_law_) d18 rfl ?_
  refine j_iconst (M := mL_law_) d19 ?_
  refine j_laload (M := mL_law_) (i := 184) (len := 1) d20 (hsh 184 _ rfl) (by decide) (by decide) (fun _ => ?_)
  refine j_iload (M := mL_law_) d21 rfl ?_
  refine j_nzl (M := mL_law_) d23 d26 d27 d30 ?_
  refine j_lcmp (M := mL_law_) d31 (hr c0) ?_
  exact j_if_eq (M := mL_law_) (tgt := pc + 37) d32 (by omega) (by decide) (fun _ => k2) (fun z => absurd rfl z)
theorem INV_next (h0 : I 159 0 = 0) (hP : Pl sh F) (hC : CR sh J F M') (h9 : J 159 0 = I 159 0) (hK : MdP b c M' J K) : INV b sh K F :=
  ⟨hP, CR_fr (hK.2.1 _ _ _ hC) (fun a ha => hK.2.2.2 a (by omega)), hK.2.2.1, by rw [hK.2.2.2 159 (by decide), h9]; exact h0⟩
/-- what goes on behind a call -/
def lNx (G : jzG) (Q : jzO → jzH → Prop) (b i : Int) (rc rs : Nat) : Prop := ∀ sh' I' F', INV (b + 140000) sh' I' F' → jW G mL_law_ 42 Q 2755 (lL i none none) [] (sh', I', F') rc rs
theorem lc_0 (hI : INV b sh I F) (hb : 0 ≤ b ∧ b ≤ 800000000) (hi : 0 ≤ i) (h6 : i + 5 < G.2.2.2.1) (hn : G.2.2.2.1 < 2 ^ 31) (k : lNx G Q b i rc rs) : jW G mL_law_ 42 Q 252 (lL i none none) [] (sh, I, F) (rc + 4) (rs + 430) := by
  have hsh := hI.1.1
  have h5 := Sh_185 hsh
  obtain ⟨c, r, M', mc, ms, ⟨hmc, hms, hcl⟩, hmd⟩ := pr_feed (G := G) hI hb (x1 := scr G (i + 1)) (x2 := scr G (i + 2)) (x3 := scr G (i + 3)) (x4 := scr G (i + 4)) (x5 := scr G (i + 5)) (scr_in _ _) (scr_in _ _) (scr_in _ _) (scr_in _ _) (scr_in _ _)
  refine j_aload_n (M := mL_law_) dL_law__252 rfl ?_
  refine l_arg dL_law__253 dL_law__254 dL_law__256 dL_law__257 dL_law__258 (by omega) (by omega) hn ?_
  refine l_arg dL_law__259 dL_law__260 dL_law__262 dL_law__263 dL_law__264 (by omega) (by omega) hn ?_
  refine l_arg dL_law__265 dL_law__266 dL_law__268 dL_law__269 dL_law__270 (by omega) (by omega) hn ?_
  refine l_arg dL_law__271 dL_law__272 dL_law__274 dL_law__275 dL_law__276 (by omega) (by omega) hn ?_
  refine l_arg dL_law__277 dL_law__278 dL_law__280 dL_law__281 dL_law__282 (by omega) (by omega) hn ?_
  refine j_callV2 (M := mL_law_) (d' := 40) (n := 5) (As := [jI (scr G (i + 1)), jI (scr G (i + 2)), jI (scr G (i + 3)), jI (scr G (i + 4)), jI (scr G (i + 5))]) (S := []) (mc' := mc) (ms' := ms) (rc' := rc) (rs' := rs) dL_law__283 cvL_121 (by decide) (by decide) (hsh 0 _ rfl) rfl (Nat.le_of_ble_eq_true rfl) (by omega) (by omega) (jS_mono hcl ?_)
  rintro o h ⟨X, J, F', rfl, hC, hq⟩
  rcases hq with ⟨c0, rfl⟩ | ⟨c0, E, rfl, hT⟩
  rotate_left
  · exact absurd hT (by simp)
  refine j_wrap (M := mL_law_) (pc := 286) (L := lL i none none) (S := []) ?_
  refine j_aload_n (M := mL_law_) (L := lL i none none) dL_law__286 rfl ?_
  refine l_arg dL_law__287 dL_law__288 dL_law__290 dL_law__291 dL_law__292 (by omega) (by omega) hn ?_
  refine l_arg dL_law__293 dL_law__294 dL_law__296 dL_law__297 dL_law__298 (by omega) (by omega) hn ?_
  refine l_arg dL_law__299 dL_law__300 dL_law__302 dL_law__303 dL_law__304 (by omega) (by omega) hn ?_
  refine l_arg dL_law__305 dL_law__306 dL_law__308 dL_law__309 dL_law__310 (by omega) (by omega) hn ?_
  refine l_arg dL_law__311 dL_law__312 dL_law__314 dL_law__315 dL_law__316 (by omega) (by omega) hn ?_
  refine j_callV2 (M := mL_law_) (d' := 40) (n := 5) (As := [jI (scr G (i + 1)), jI (scr G (i + 2)), jI (scr G (i + 3)), jI (scr G (i + 4)), jI (scr G (i + 5))]) (S := [jI (jwr r)]) (mc' := 0) (ms' := 0) (rc' := rc) (rs' := rs) dL_law__317 cvL_125 (by decide) (by decide) (hC.1.1 170 _ rfl) rfl (Nat.le_of_ble_eq_true rfl) (by omega) (by omega) (jS_mono (hmd X J F' hC.1 (fun a a0 a1 => hC.2.2.1 a a0 (by omega))) ?_)
  rintro o h ⟨K, r2, rfl, rfl, hr, hK⟩
  refine j_wrap (M := mL_law_) (pc := 320) (L := lL i none none) (S := [jI (jwr r)]) ?_
  rw [hr c0]
  exact j_icmp_eq (M := mL_law_) (tgt := 2755) dL_law__320 (by decide) (jwr_in _) (jwr_in _) (fun _ => k _ _ _ (INV_next hI.2.2.2 hC.1 hC.2.1 hC.2.2.2 hK)) (fun z => absurd rfl z)
theorem lc_1 (hI : INV b sh I F) (hb : 0 ≤ b ∧ b ≤ 800000000) (hi : 0 ≤ i) (h6 : i + 5 < G.2.2.2.1) (hn : G.2.2.2.1 < 2 ^ 31) (k : lNx G Q b i rc rs) : jW G mL_law_ 42 Q 325 (lL i none none) [] (sh, I, F) (rc + 4) (rs + 430) := by
  have hsh := hI.1.1
  have h5 := Sh_185 hsh
  obtain ⟨c, r, M', mc, ms, ⟨hmc, hms, hcl⟩, hmd⟩ := pr_end (G := G) hI hb (n := scr G (i + 1)) (scr_in _ _)
  refine j_aload_n (M := mL_law_) dL_law__325 rfl ?_
  refine l_arg dL_law__326 dL_law__327 dL_law__329 dL_law__330 dL_law__331 (by omega) (by omega) hn ?_
  refine j_callV2 (M := mL_law_) (d' := 40) (n := 1) (As := [jI (scr G (i + 1))]) (S := []) (mc' := mc) (ms' := ms) (rc' := rc) (rs' := rs) dL_law__332 cvL_126 (by decide) (by decide) (hsh 0 _ rfl) rfl (Nat.le_of_ble_eq_true rfl) (by omega) (by omega) (jS_mono hcl ?_)
  rintro o h ⟨X, J, F', rfl, hC, hq⟩
  rcases hq with ⟨c0, rfl⟩ | ⟨c0, E, rfl, hT⟩
  rotate_left
  · exact absurd hT (by simp)
  refine j_wrap (M := mL_law_) (pc := 335) (L := lL i none none) (S := []) ?_
  refine j_aload_n (M := mL_law_) (L := lL i none none) dL_law__335 rfl ?_
  refine l_arg dL_law__336 dL_law__337 dL_law__339 dL_law__340 dL_law__341 (by omega) (by omega) hn ?_
  refine j_callV2 (M := mL_law_) (d' := 40) (n := 1) (As := [jI (scr G (i + 1))]) (S := [jI (jwr r)]) (mc' := 0) (ms' := 0) (rc' := rc) (rs' := rs) dL_law__342 cvL_129 (by decide) (by decide) (hC.1.1 170 _ rfl) rfl (Nat.le_of_ble_eq_true rfl) (by omega) (by omega) (jS_mono (hmd X J F' hC.1 (fun a a0 a1 => hC.2.2.1 a a0 (by omega))) ?_)
  rintro o h ⟨K, r2, rfl, rfl, hr, hK⟩
  refine j_wrap (M := mL_law_) (pc := 345) (L := lL i none none) (S := [jI (jwr r)]) ?_
  rw [hr c0]
  exact j_icmp_eq (M := mL_law_) (tgt := 2755) dL_law__345 (by decide) (jwr_in _) (jwr_in _) (fun _ => k _ _ _ (INV_next hI.2.2.2 hC.1 hC.2.1 hC.2.2.2 hK)) (fun z => absurd rfl z)
theorem lc_2 (hI : INV b sh I F) (hb : 0 ≤ b ∧ b ≤ 800000000) (hi : 0 ≤ i) (h6 : i + 5 < G.2.2.2.1) (hn : G.2.2.2.1 < 2 ^ 31) (k : lNx G Q b i rc rs) : jW G mL_law_ 42 Q 350 (lL i none none) [] (sh, I, F) (rc + 4) (rs + 430) := by
  have hsh := hI.1.1
  obtain ⟨c, r, M', mc, ms, ⟨hmc, hms, hcl⟩, hmd⟩ := pr_bank (G := G) hI hb 
  refine j_aload_n (M := mL_law_) dL_law__350 rfl ?_
  refine j_aload_n (M := mL_law_) dL_law__351 rfl ?_
  refine j_callT (M := mL_law_) (d := 41) (n := 2) (As := [jR (some 0), jR (some 184)]) (S := []) (mc' := mc) (ms' := ms) (rc' := rc) (rs' := rs) dL_law__352 ctL_130 rfl (Nat.le_of_ble_eq_true rfl) (by omega) (by omega) (jS_mono (wr_bank hsh hcl) ?_)
  rintro o h ⟨X, J, F', rfl, rfl, hP, hC, hA, h9, hv⟩
  refine j_istore (M := mL_law_) (pc := 355) (L := lL i none none) dL_law__355 (by decide) ?_
  refine j_aload_n (M := mL_law_) (L := lL i (some (jI c)) none) dL_law__357 rfl ?_
  refine j_callV2 (M := mL_law_) (d' := 40) (n := 0) (As := []) (S := []) (mc' := 0) (ms' := 0) (rc' := rc) (rs' := rs) dL_law__358 cvL_135 (by decide) (by decide) (hP.1 170 _ rfl) rfl (Nat.le_of_ble_eq_true rfl) (by omega) (by omega) (jS_mono (hmd X J F' hP hA) ?_)
  rintro o h ⟨K, r2, rfl, rfl, hr, hK⟩
  refine l_tail (pc := 361) (off := 2364) ⟨dL_law__361, dL_law__363, dL_law__364, dL_law__367, dL_law__369, dL_law__374, dL_law__376, dL_law__379, dL_law__380, dL_law__381, dL_law__382, dL_law__384, dL_law__385, dL_law__386, dL_law__391⟩ (by decide) hP.1 hK.1 (fun z => ?_) (k _ _ _ (INV_next hI.2.2.2 hP hC h9 hK))
  rw [hK.2.2.2 184 (by decide), hv z, hr z]
theorem lc_3 (hI : INV b sh I F) (hb : 0 ≤ b ∧ b ≤ 800000000) (hi : 0 ≤ i) (h6 : i + 5 < G.2.2.2.1) (hn : G.2.2.2.1 < 2 ^ 31) (k : lNx G Q b i rc rs) : jW G mL_law_ 42 Q 394 (lL i none none) [] (sh, I, F) (rc + 4) (rs + 430) := by
  have hsh := hI.1.1
  obtain ⟨c, r, M', mc, ms, ⟨hmc, hms, hcl⟩, hmd⟩ := pr_law (G := G) hI hb 
  refine j_aload_n (M := mL_law_) dL_law__394 rfl ?_
  refine j_aload_n (M := mL_law_) dL_law__395 rfl ?_
  refine j_callT (M := mL_law_) (d := 41) (n := 2) (As := [jR (some 0), jR (some 184)]) (S := []) (mc' := mc) (ms' := ms) (rc' := rc) (rs' := rs) dL_law__396 ctL_139 rfl (Nat.le_of_ble_eq_true rfl) (by omega) (by omega) (jS_mono (wr_law hsh hcl) ?_)
  rintro o h ⟨X, J, F', rfl, rfl, hP, hC, hA, h9, hv⟩
  refine j_istore (M := mL_law_) (pc := 399) (L := lL i none none) dL_law__399 (by decide) ?_
  refine j_aload_n (M := mL_law_) (L := lL i (some (jI c)) none) dL_law__401 rfl ?_
  refine j_callV2 (M := mL_law_) (d' := 40) (n := 0) (As := []) (S := []) (mc' := 0) (ms' := 0) (rc' := rc) (rs' := rs) dL_law__402 cvL_141 (by decide) (by decide) (hP.1 170 _ rfl) rfl (Nat.le_of_ble_eq_true rfl) (by omega) (by omega) (jS_mono (hmd X J F' hP hA) ?_)
  rintro o h ⟨K, r2, rfl, rfl, hr, hK⟩
  refine l_tail (pc := 405) (off := 2320) ⟨dL_law__405, dL_law__407, dL_law__408, dL_law__411, dL_law__413, dL_law__418, dL_law__420, dL_law__423, dL_law__424, dL_law__425, dL_law__426, dL_law__428, dL_law__429, dL_law__430, dL_law__435⟩ (by decide) hP.1 hK.1 (fun z => ?_) (k _ _ _ (INV_next hI.2.2.2 hP hC h9 hK))
  rw [hK.2.2.2 184 (by decide), hv z, hr z]
theorem lc_4 (hI : INV b sh I F) (hb : 0 ≤ b ∧ b ≤ 800000000) (hi : 0 ≤ i) (h6 : i + 5 < G.2.2.2.1) (hn : G.2.2.2.1 < 2 ^ 31) (k : lNx G Q b i rc rs) : jW G mL_law_ 42 Q 438 (lL i none none) [] (sh, I, F) (rc + 4) (rs + 430) := by
  have hsh := hI.1.1
  have h5 := Sh_185 hsh
  obtain ⟨c, r, M', mc, ms, ⟨hmc, hms, hcl⟩, hmd⟩ := pr_fault (G := G) hI 
  refine j_aload_n (M := mL_law_) dL_law__438 rfl ?_
  refine j_callV2 (M := mL_law_) (d' := 40) (n := 0) (As := []) (S := []) (mc' := mc) (ms' := ms) (rc' := rc) (rs' := rs) dL_law__439 cvL_142 (by decide) (by decide) (hsh 0 _ rfl) rfl (Nat.le_of_ble_eq_true rfl) (by omega) (by omega) (jS_mono hcl ?_)
  rintro o h ⟨X, J, F', rfl, hC, hq⟩
  rcases hq with ⟨c0, rfl⟩ | ⟨c0, E, rfl, hT⟩
  rotate_left
  · exact absurd hT (by simp)
  refine j_wrap (M := mL_law_) (pc := 442) (L := lL i none none) (S := []) ?_
  refine j_aload_n (M := mL_law_) (L := lL i none none) dL_law__442 rfl ?_
  refine j_callV2 (M := mL_law_) (d' := 40) (n := 0) (As := []) (S := [jI (jwr r)]) (mc' := 0) (ms' := 0) (rc' := rc) (rs' := rs) dL_law__443 cvL_145 (by decide) (by decide) (hC.1.1 170 _ rfl) rfl (Nat.le_of_ble_eq_true rfl) (by omega) (by omega) (jS_mono (hmd X J F' hC.1 (fun a a0 a1 => hC.2.2.1 a a0 (by omega))) ?_)
  rintro o h ⟨K, r2, rfl, rfl, hr, hK⟩
  refine j_wrap (M := mL_law_) (pc := 446) (L := lL i none none) (S := [jI (jwr r)]) ?_
  rw [hr c0]
  exact j_icmp_eq (M := mL_law_) (tgt := 2755) dL_law__446 (by decide) (jwr_in _) (jwr_in _) (fun _ => k _ _ _ (INV_next hI.2.2.2 hC.1 hC.2.1 hC.2.2.2 hK)) (fun z => absurd rfl z)
theorem lc_5 (hI : INV b sh I F) (hb : 0 ≤ b ∧ b ≤ 800000000) (hi : 0 ≤ i) (h6 : i + 5 < G.2.2.2.1) (hn : G.2.2.2.1 < 2 ^ 31) (k : lNx G Q b i rc rs) : jW G mL_law_ 42 Q 451 (lL i none none) [] (sh, I, F) (rc + 4) (rs + 430) := by
  have hsh := hI.1.1
  obtain ⟨c, r, M', mc, ms, ⟨hmc, hms, hcl⟩, hmd⟩ := pr_person (G := G) hI hb (p := scr G (i + 1)) (k := scr G (i + 2)) (scr_in _ _) (scr_in _ _)
  refine j_aload_n (M := mL_law_) dL_law__451 rfl ?_
  refine l_arg dL_law__452 dL_law__453 dL_law__455 dL_law__456 dL_law__457 (by omega) (by omega) hn ?_
  refine l_arg dL_law__458 dL_law__459 dL_law__461 dL_law__462 dL_law__463 (by omega) (by omega) hn ?_
  refine j_aload_n (M := mL_law_) dL_law__464 rfl ?_
  refine j_callT (M := mL_law_) (d := 41) (n := 4) (As := [jR (some 0), jI (scr G (i + 1)), jI (scr G (i + 2)), jR (some 184)]) (S := []) (mc' := mc) (ms' := ms) (rc' := rc) (rs' := rs) dL_law__465 ctL_146 rfl (Nat.le_of_ble_eq_true rfl) (by omega) (by omega) (jS_mono (wr_person hsh hcl) ?_)
  rintro o h ⟨X, J, F', rfl, rfl, hP, hC, hA, h9, hv⟩
  refine j_istore (M := mL_law_) (pc := 468) (L := lL i none none) dL_law__468 (by decide) ?_
  refine j_aload_n (M := mL_law_) (L := lL i (some (jI c)) none) dL_law__470 rfl ?_
  refine l_arg dL_law__471 dL_law__472 dL_law__474 dL_law__475 dL_law__476 (by omega) (by omega) hn ?_
  refine l_arg dL_law__477 dL_law__478 dL_law__480 dL_law__481 dL_law__482 (by omega) (by omega) hn ?_
  refine j_callV2 (M := mL_law_) (d' := 40) (n := 2) (As := [jI (scr G (i + 1)), jI (scr G (i + 2))]) (S := []) (mc' := 0) (ms' := 0) (rc' := rc) (rs' := rs) dL_law__483 cvL_149 (by decide) (by decide) (hP.1 170 _ rfl) rfl (Nat.le_of_ble_eq_true rfl) (by omega) (by omega) (jS_mono (hmd X J F' hP hA) ?_)
  rintro o h ⟨K, r2, rfl, rfl, hr, hK⟩
  refine l_tail (pc := 486) (off := 2239) ⟨dL_law__486, dL_law__488, dL_law__489, dL_law__492, dL_law__494, dL_law__499, dL_law__501, dL_law__504, dL_law__505, dL_law__506, dL_law__507, dL_law__509, dL_law__510, dL_law__511, dL_law__516⟩ (by decide) hP.1 hK.1 (fun z => ?_) (k _ _ _ (INV_next hI.2.2.2 hP hC h9 hK))
  rw [hK.2.2.2 184 (by decide), hv z, hr z]
theorem lc_6 (hI : INV b sh I F) (hb : 0 ≤ b ∧ b ≤ 800000000) (hi : 0 ≤ i) (h6 : i + 5 < G.2.2.2.1) (hn : G.2.2.2.1 < 2 ^ 31) (k : lNx G Q b i rc rs) : jW G mL_law_ 42 Q 519 (lL i none none) [] (sh, I, F) (rc + 4) (rs + 430) := by
  have hsh := hI.1.1
  obtain ⟨c, r, M', mc, ms, ⟨hmc, hms, hcl⟩, hmd⟩ := pr_pain (G := G) hI hb (p := scr G (i + 1)) (k := scr G (i + 2)) (scr_in _ _) (scr_in _ _)
  refine j_aload_n (M := mL_law_) dL_law__519 rfl ?_
  refine l_arg dL_law__520 dL_law__521 dL_law__523 dL_law__524 dL_law__525 (by omega) (by omega) hn ?_
  refine l_arg dL_law__526 dL_law__527 dL_law__529 dL_law__530 dL_law__531 (by omega) (by omega) hn ?_
  refine j_aload_n (M := mL_law_) dL_law__532 rfl ?_
  refine j_callT (M := mL_law_) (d := 41) (n := 4) (As := [jR (some 0), jI (scr G (i + 1)), jI (scr G (i + 2)), jR (some 184)]) (S := []) (mc' := mc) (ms' := ms) (rc' := rc) (rs' := rs) dL_law__533 ctL_150 rfl (Nat.le_of_ble_eq_true rfl) (by omega) (by omega) (jS_mono (wr_pain hsh hcl) ?_)
  rintro o h ⟨X, J, F', rfl, rfl, hP, hC, hA, h9, hv⟩
  refine j_istore (M := mL_law_) (pc := 536) (L := lL i none none) dL_law__536 (by decide) ?_
  refine j_aload_n (M := mL_law_) (L := lL i (some (jI c)) none) dL_law__538 rfl ?_
  refine l_arg dL_law__539 dL_law__540 dL_law__542 dL_law__543 dL_law__544 (by omega) (by omega) hn ?_
  refine l_arg dL_law__545 dL_law__546 dL_law__548 dL_law__549 dL_law__550 (by omega) (by omega) hn ?_
  refine j_callV2 (M := mL_law_) (d' := 40) (n := 2) (As := [jI (scr G (i + 1)), jI (scr G (i + 2))]) (S := []) (mc' := 0) (ms' := 0) (rc' := rc) (rs' := rs) dL_law__551 cvL_152 (by decide) (by decide) (hP.1 170 _ rfl) rfl (Nat.le_of_ble_eq_true rfl) (by omega) (by omega) (jS_mono (hmd X J F' hP hA) ?_)
  rintro o h ⟨K, r2, rfl, rfl, hr, hK⟩
  refine l_tail (pc := 554) (off := 2171) ⟨dL_law__554, dL_law__556, dL_law__557, dL_law__560, dL_law__562, dL_law__567, dL_law__569, dL_law__572, dL_law__573, dL_law__574, dL_law__575, dL_law__577, dL_law__578, dL_law__579, dL_law__584⟩ (by decide) hP.1 hK.1 (fun z => ?_) (k _ _ _ (INV_next hI.2.2.2 hP hC h9 hK))
  rw [hK.2.2.2 184 (by decide), hv z, hr z]
theorem lc_7 (hI : INV b sh I F) (hb : 0 ≤ b ∧ b ≤ 800000000) (hi : 0 ≤ i) (h6 : i + 5 < G.2.2.2.1) (hn : G.2.2.2.1 < 2 ^ 31) (k : lNx G Q b i rc rs) : jW G mL_law_ 42 Q 587 (lL i none none) [] (sh, I, F) (rc + 4) (rs + 430) := by
  have hsh := hI.1.1
  obtain ⟨c, r, M', mc, ms, ⟨hmc, hms, hcl⟩, hmd⟩ := pr_owed (G := G) hI hb (p := scr G (i + 1)) (q := scr G (i + 2)) (scr_in _ _) (scr_in _ _)
  refine j_aload_n (M := mL_law_) dL_law__587 rfl ?_
  refine l_arg dL_law__588 dL_law__589 dL_law__591 dL_law__592 dL_law__593 (by omega) (by omega) hn ?_
  refine l_arg dL_law__594 dL_law__595 dL_law__597 dL_law__598 dL_law__599 (by omega) (by omega) hn ?_
  refine j_aload_n (M := mL_law_) dL_law__600 rfl ?_
  refine j_callT (M := mL_law_) (d := 41) (n := 4) (As := [jR (some 0), jI (scr G (i + 1)), jI (scr G (i + 2)), jR (some 184)]) (S := []) (mc' := mc) (ms' := ms) (rc' := rc) (rs' := rs) dL_law__601 ctL_153 rfl (Nat.le_of_ble_eq_true rfl) (by omega) (by omega) (jS_mono (wr_owed hsh hcl) ?_)
  rintro o h ⟨X, J, F', rfl, rfl, hP, hC, hA, h9, hv⟩
  refine j_istore (M := mL_law_) (pc := 604) (L := lL i none none) dL_law__604 (by decide) ?_
  refine j_aload_n (M := mL_law_) (L := lL i (some (jI c)) none) dL_law__606 rfl ?_
  refine l_arg dL_law__607 dL_law__608 dL_law__610 dL_law__611 dL_law__612 (by omega) (by omega) hn ?_
  refine l_arg dL_law__613 dL_law__614 dL_law__616 dL_law__617 dL_law__618 (by omega) (by omega) hn ?_
  refine j_callV2 (M := mL_law_) (d' := 40) (n := 2) (As := [jI (scr G (i + 1)), jI (scr G (i + 2))]) (S := []) (mc' := 0) (ms' := 0) (rc' := rc) (rs' := rs) dL_law__619 cvL_155 (by decide) (by decide) (hP.1 170 _ rfl) rfl (Nat.le_of_ble_eq_true rfl) (by omega) (by omega) (jS_mono (hmd X J F' hP hA) ?_)
  rintro o h ⟨K, r2, rfl, rfl, hr, hK⟩
  refine l_tail (pc := 622) (off := 2103) ⟨dL_law__622, dL_law__624, dL_law__625, dL_law__628, dL_law__630, dL_law__635, dL_law__637, dL_law__640, dL_law__641, dL_law__642, dL_law__643, dL_law__645, dL_law__646, dL_law__647, dL_law__652⟩ (by decide) hP.1 hK.1 (fun z => ?_) (k _ _ _ (INV_next hI.2.2.2 hP hC h9 hK))
  rw [hK.2.2.2 184 (by decide), hv z, hr z]
theorem lc_8 (hI : INV b sh I F) (hb : 0 ≤ b ∧ b ≤ 800000000) (hi : 0 ≤ i) (h6 : i + 5 < G.2.2.2.1) (hn : G.2.2.2.1 < 2 ^ 31) (k : lNx G Q b i rc rs) : jW G mL_law_ 42 Q 655 (lL i none none) [] (sh, I, F) (rc + 4) (rs + 430) := by
  have hsh := hI.1.1
  obtain ⟨c, r, M', mc, ms, ⟨hmc, hms, hcl⟩, hmd⟩ := pr_today (G := G) hI hb (p := scr G (i + 1)) (k := scr G (i + 2)) (scr_in _ _) (scr_in _ _)
  refine j_aload_n (M := mL_law_) dL_law__655 rfl ?_
  refine l_arg dL_law__656 dL_law__657 dL_law__659 dL_law__660 dL_law__661 (by omega) (by omega) hn ?_
  refine l_arg dL_law__662 dL_law__663 dL_law__665 dL_law__666 dL_law__667 (by omega) (by omega) hn ?_
  refine j_aload_n (M := mL_law_) dL_law__668 rfl ?_
  refine j_callT (M := mL_law_) (d := 41) (n := 4) (As := [jR (some 0), jI (scr G (i + 1)), jI (scr G (i + 2)), jR (some 184)]) (S := []) (mc' := mc) (ms' := ms) (rc' := rc) (rs' := rs) dL_law__669 ctL_156 rfl (Nat.le_of_ble_eq_true rfl) (by omega) (by omega) (jS_mono (wr_today hsh hcl) ?_)
  rintro o h ⟨X, J, F', rfl, rfl, hP, hC, hA, h9, hv⟩
  refine j_istore (M := mL_law_) (pc := 672) (L := lL i none none) dL_law__672 (by decide) ?_
  refine j_aload_n (M := mL_law_) (L := lL i (some (jI c)) none) dL_law__674 rfl ?_
  refine l_arg dL_law__675 dL_law__676 dL_law__678 dL_law__679 dL_law__680 (by omega) (by omega) hn ?_
  refine l_arg dL_law__681 dL_law__682 dL_law__684 dL_law__685 dL_law__686 (by omega) (by omega) hn ?_
  refine j_callV2 (M := mL_law_) (d' := 40) (n := 2) (As := [jI (scr G (i + 1)), jI (scr G (i + 2))]) (S := []) (mc' := 0) (ms' := 0) (rc' := rc) (rs' := rs) dL_law__687 cvL_158 (by decide) (by decide) (hP.1 170 _ rfl) rfl (Nat.le_of_ble_eq_true rfl) (by omega) (by omega) (jS_mono (hmd X J F' hP hA) ?_)
  rintro o h ⟨K, r2, rfl, rfl, hr, hK⟩
  refine l_tail (pc := 690) (off := 2035) ⟨dL_law__690, dL_law__692, dL_law__693, dL_law__696, dL_law__698, dL_law__703, dL_law__705, dL_law__708, dL_law__709, dL_law__710, dL_law__711, dL_law__713, dL_law__714, dL_law__715, dL_law__720⟩ (by decide) hP.1 hK.1 (fun z => ?_) (k _ _ _ (INV_next hI.2.2.2 hP hC h9 hK))
  rw [hK.2.2.2 184 (by decide), hv z, hr z]
theorem lc_9 (hI : INV b sh I F) (hb : 0 ≤ b ∧ b ≤ 800000000) (hi : 0 ≤ i) (h6 : i + 5 < G.2.2.2.1) (hn : G.2.2.2.1 < 2 ^ 31) (k : lNx G Q b i rc rs) : jW G mL_law_ 42 Q 723 (lL i none none) [] (sh, I, F) (rc + 4) (rs + 430) := by
  have hsh := hI.1.1
  obtain ⟨c, r, M', mc, ms, ⟨hmc, hms, hcl⟩, hmd⟩ := pr_put (G := G) hI hb (p := scr G (i + 1)) (n := scr G (i + 2)) (scr_in _ _) (scr_in _ _)
  refine j_aload_n (M := mL_law_) dL_law__723 rfl ?_
  refine l_arg dL_law__724 dL_law__725 dL_law__727 dL_law__728 dL_law__729 (by omega) (by omega) hn ?_
  refine l_arg dL_law__730 dL_law__731 dL_law__733 dL_law__734 dL_law__735 (by omega) (by omega) hn ?_
  refine j_aload_n (M := mL_law_) dL_law__736 rfl ?_
  refine j_callT (M := mL_law_) (d := 41) (n := 4) (As := [jR (some 0), jI (scr G (i + 1)), jI (scr G (i + 2)), jR (some 184)]) (S := []) (mc' := mc) (ms' := ms) (rc' := rc) (rs' := rs) dL_law__737 ctL_159 rfl (Nat.le_of_ble_eq_true rfl) (by omega) (by omega) (jS_mono (wr_put hsh hcl) ?_)
  rintro o h ⟨X, J, F', rfl, rfl, hP, hC, hA, h9, hv⟩
  refine j_istore (M := mL_law_) (pc := 740) (L := lL i none none) dL_law__740 (by decide) ?_
  refine j_aload_n (M := mL_law_) (L := lL i (some (jI c)) none) dL_law__742 rfl ?_
  refine l_arg dL_law__743 dL_law__744 dL_law__746 dL_law__747 dL_law__748 (by omega) (by omega) hn ?_
  refine l_arg dL_law__749 dL_law__750 dL_law__752 dL_law__753 dL_law__754 (by omega) (by omega) hn ?_
  refine j_callV2 (M := mL_law_) (d' := 40) (n := 2) (As := [jI (scr G (i + 1)), jI (scr G (i + 2))]) (S := []) (mc' := 0) (ms' := 0) (rc' := rc) (rs' := rs) dL_law__755 cvL_161 (by decide) (by decide) (hP.1 170 _ rfl) rfl (Nat.le_of_ble_eq_true rfl) (by omega) (by omega) (jS_mono (hmd X J F' hP hA) ?_)
  rintro o h ⟨K, r2, rfl, rfl, hr, hK⟩
  refine l_tail (pc := 758) (off := 1967) ⟨dL_law__758, dL_law__760, dL_law__761, dL_law__764, dL_law__766, dL_law__771, dL_law__773, dL_law__776, dL_law__777, dL_law__778, dL_law__779, dL_law__781, dL_law__782, dL_law__783, dL_law__788⟩ (by decide) hP.1 hK.1 (fun z => ?_) (k _ _ _ (INV_next hI.2.2.2 hP hC h9 hK))
  rw [hK.2.2.2 184 (by decide), hv z, hr z]
theorem lc_10 (hI : INV b sh I F) (hb : 0 ≤ b ∧ b ≤ 800000000) (hi : 0 ≤ i) (h6 : i + 5 < G.2.2.2.1) (hn : G.2.2.2.1 < 2 ^ 31) (k : lNx G Q b i rc rs) : jW G mL_law_ 42 Q 791 (lL i none none) [] (sh, I, F) (rc + 4) (rs + 430) := by
  have hsh := hI.1.1
  obtain ⟨c, r, M', mc, ms, ⟨hmc, hms, hcl⟩, hmd⟩ := pr_draw (G := G) hI hb (p := scr G (i + 1)) (n := scr G (i + 2)) (scr_in _ _) (scr_in _ _)
  refine j_aload_n (M := mL_law_) dL_law__791 rfl ?_
  refine l_arg dL_law__792 dL_law__793 dL_law__795 dL_law__796 dL_law__797 (by omega) (by omega) hn ?_
  refine l_arg dL_law__798 dL_law__799 dL_law__801 dL_law__802 dL_law__803 (by omega) (by omega) hn ?_
  refine j_aload_n (M := mL_law_) dL_law__804 rfl ?_
  refine j_callT (M := mL_law_) (d := 41) (n := 4) (As := [jR (some 0), jI (scr G (i + 1)), jI (scr G (i + 2)), jR (some 184)]) (S := []) (mc' := mc) (ms' := ms) (rc' := rc) (rs' := rs) dL_law__805 ctL_162 rfl (Nat.le_of_ble_eq_true rfl) (by omega) (by omega) (jS_mono (wr_draw hsh hcl) ?_)
  rintro o h ⟨X, J, F', rfl, rfl, hP, hC, hA, h9, hv⟩
  refine j_istore (M := mL_law_) (pc := 808) (L := lL i none none) dL_law__808 (by decide) ?_
  refine j_aload_n (M := mL_law_) (L := lL i (some (jI c)) none) dL_law__810 rfl ?_
  refine l_arg dL_law__811 dL_law__812 dL_law__814 dL_law__815 dL_law__816 (by omega) (by omega) hn ?_
  refine l_arg dL_law__817 dL_law__818 dL_law__820 dL_law__821 dL_law__822 (by omega) (by omega) hn ?_
  refine j_callV2 (M := mL_law_) (d' := 40) (n := 2) (As := [jI (scr G (i + 1)), jI (scr G (i + 2))]) (S := []) (mc' := 0) (ms' := 0) (rc' := rc) (rs' := rs) dL_law__823 cvL_164 (by decide) (by decide) (hP.1 170 _ rfl) rfl (Nat.le_of_ble_eq_true rfl) (by omega) (by omega) (jS_mono (hmd X J F' hP hA) ?_)
  rintro o h ⟨K, r2, rfl, rfl, hr, hK⟩
  refine l_tail (pc := 826) (off := 1899) ⟨dL_law__826, dL_law__828, dL_law__829, dL_law__832, dL_law__834, dL_law__839, dL_law__841, dL_law__844, dL_law__845, dL_law__846, dL_law__847, dL_law__849, dL_law__850, dL_law__851, dL_law__856⟩ (by decide) hP.1 hK.1 (fun z => ?_) (k _ _ _ (INV_next hI.2.2.2 hP hC h9 hK))
  rw [hK.2.2.2 184 (by decide), hv z, hr z]
theorem lc_11 (hI : INV b sh I F) (hb : 0 ≤ b ∧ b ≤ 800000000) (hi : 0 ≤ i) (h6 : i + 5 < G.2.2.2.1) (hn : G.2.2.2.1 < 2 ^ 31) (k : lNx G Q b i rc rs) : jW G mL_law_ 42 Q 859 (lL i none none) [] (sh, I, F) (rc + 4) (rs + 430) := by
  have hsh := hI.1.1
  obtain ⟨c, r, M', mc, ms, ⟨hmc, hms, hcl⟩, hmd⟩ := pr_cheque (G := G) hI hb (p := scr G (i + 1)) (q := scr G (i + 2)) (n := scr G (i + 3)) (scr_in _ _) (scr_in _ _) (scr_in _ _)
  refine j_aload_n (M := mL_law_) dL_law__859 rfl ?_
  refine l_arg dL_law__860 dL_law__861 dL_law__863 dL_law__864 dL_law__865 (by omega) (by omega) hn ?_
  refine l_arg dL_law__866 dL_law__867 dL_law__869 dL_law__870 dL_law__871 (by omega) (by omega) hn ?_
  refine l_arg dL_law__872 dL_law__873 dL_law__875 dL_law__876 dL_law__877 (by omega) (by omega) hn ?_
  refine j_aload_n (M := mL_law_) dL_law__878 rfl ?_
  refine j_callT (M := mL_law_) (d := 41) (n := 5) (As := [jR (some 0), jI (scr G (i + 1)), jI (scr G (i + 2)), jI (scr G (i + 3)), jR (some 184)]) (S := []) (mc' := mc) (ms' := ms) (rc' := rc) (rs' := rs) dL_law__879 ctL_165 rfl (Nat.le_of_ble_eq_true rfl) (by omega) (by omega) (jS_mono (wr_cheque hsh hcl) ?_)
  rintro o h ⟨X, J, F', rfl, rfl, hP, hC, hA, h9, hv⟩
  refine j_istore (M := mL_law_) (pc := 882) (L := lL i none none) dL_law__882 (by decide) ?_
  refine j_aload_n (M := mL_law_) (L := lL i (some (jI c)) none) dL_law__884 rfl ?_
  refine l_arg dL_law__885 dL_law__886 dL_law__888 dL_law__889 dL_law__890 (by omega) (by omega) hn ?_
  refine l_arg dL_law__891 dL_law__892 dL_law__894 dL_law__895 dL_law__896 (by omega) (by omega) hn ?_
  refine l_arg dL_law__897 dL_law__898 dL_law__900 dL_law__901 dL_law__902 (by omega) (by omega) hn ?_
  refine j_callV2 (M := mL_law_) (d' := 40) (n := 3) (As := [jI (scr G (i + 1)), jI (scr G (i + 2)), jI (scr G (i + 3))]) (S := []) (mc' := 0) (ms' := 0) (rc' := rc) (rs' := rs) dL_law__903 cvL_168 (by decide) (by decide) (hP.1 170 _ rfl) rfl (Nat.le_of_ble_eq_true rfl) (by omega) (by omega) (jS_mono (hmd X J F' hP hA) ?_)
  rintro o h ⟨K, r2, rfl, rfl, hr, hK⟩
  refine l_tail (pc := 906) (off := 1819) ⟨dL_law__906, dL_law__908, dL_law__909, dL_law__912, dL_law__914, dL_law__919, dL_law__921, dL_law__924, dL_law__925, dL_law__926, dL_law__927, dL_law__929, dL_law__930, dL_law__931, dL_law__936⟩ (by decide) hP.1 hK.1 (fun z => ?_) (k _ _ _ (INV_next hI.2.2.2 hP hC h9 hK))
  rw [hK.2.2.2 184 (by decide), hv z, hr z]
theorem lc_12 (hI : INV b sh I F) (hb : 0 ≤ b ∧ b ≤ 800000000) (hi : 0 ≤ i) (h6 : i + 5 < G.2.2.2.1) (hn : G.2.2.2.1 < 2 ^ 31) (k : lNx G Q b i rc rs) : jW G mL_law_ 42 Q 939 (lL i none none) [] (sh, I, F) (rc + 4) (rs + 430) := by
  have hsh := hI.1.1
  obtain ⟨c, r, M', mc, ms, ⟨hmc, hms, hcl⟩, hmd⟩ := pr_owe (G := G) hI hb (p := scr G (i + 1)) (q := scr G (i + 2)) (n := scr G (i + 3)) (scr_in _ _) (scr_in _ _) (scr_in _ _)
  refine j_aload_n (M := mL_law_) dL_law__939 rfl ?_
  refine l_arg dL_law__940 dL_law__941 dL_law__943 dL_law__944 dL_law__945 (by omega) (by omega) hn ?_
  refine l_arg dL_law__946 dL_law__947 dL_law__949 dL_law__950 dL_law__951 (by omega) (by omega) hn ?_
  refine l_arg dL_law__952 dL_law__953 dL_law__955 dL_law__956 dL_law__957 (by omega) (by omega) hn ?_
  refine j_aload_n (M := mL_law_) dL_law__958 rfl ?_
  refine j_callT (M := mL_law_) (d := 41) (n := 5) (As := [jR (some 0), jI (scr G (i + 1)), jI (scr G (i + 2)), jI (scr G (i + 3)), jR (some 184)]) (S := []) (mc' := mc) (ms' := ms) (rc' := rc) (rs' := rs) dL_law__959 ctL_169 rfl (Nat.le_of_ble_eq_true rfl) (by omega) (by omega) (jS_mono (wr_owe hsh hcl) ?_)
  rintro o h ⟨X, J, F', rfl, rfl, hP, hC, hA, h9, hv⟩
  refine j_istore (M := mL_law_) (pc := 962) (L := lL i none none) dL_law__962 (by decide) ?_
  refine j_aload_n (M := mL_law_) (L := lL i (some (jI c)) none) dL_law__964 rfl ?_
  refine l_arg dL_law__965 dL_law__966 dL_law__968 dL_law__969 dL_law__970 (by omega) (by omega) hn ?_
  refine l_arg dL_law__971 dL_law__972 dL_law__974 dL_law__975 dL_law__976 (by omega) (by omega) hn ?_
  refine l_arg dL_law__977 dL_law__978 dL_law__980 dL_law__981 dL_law__982 (by omega) (by omega) hn ?_
  refine j_callV2 (M := mL_law_) (d' := 40) (n := 3) (As := [jI (scr G (i + 1)), jI (scr G (i + 2)), jI (scr G (i + 3))]) (S := []) (mc' := 0) (ms' := 0) (rc' := rc) (rs' := rs) dL_law__983 cvL_171 (by decide) (by decide) (hP.1 170 _ rfl) rfl (Nat.le_of_ble_eq_true rfl) (by omega) (by omega) (jS_mono (hmd X J F' hP hA) ?_)
  rintro o h ⟨K, r2, rfl, rfl, hr, hK⟩
  refine l_tail (pc := 986) (off := 1739) ⟨dL_law__986, dL_law__988, dL_law__989, dL_law__992, dL_law__994, dL_law__999, dL_law__1001, dL_law__1004, dL_law__1005, dL_law__1006, dL_law__1007, dL_law__1009, dL_law__1010, dL_law__1011, dL_law__1016⟩ (by decide) hP.1 hK.1 (fun z => ?_) (k _ _ _ (INV_next hI.2.2.2 hP hC h9 hK))
  rw [hK.2.2.2 184 (by decide), hv z, hr z]
theorem lc_13 (hI : INV b sh I F) (hb : 0 ≤ b ∧ b ≤ 800000000) (hi : 0 ≤ i) (h6 : i + 5 < G.2.2.2.1) (hn : G.2.2.2.1 < 2 ^ 31) (k : lNx G Q b i rc rs) : jW G mL_law_ 42 Q 1019 (lL i none none) [] (sh, I, F) (rc + 4) (rs + 430) := by
  have hsh := hI.1.1
  have h5 := Sh_185 hsh
  obtain ⟨c, r, M', mc, ms, ⟨hmc, hms, hcl⟩, hmd⟩ := pr_net (G := G) hI hb 
  refine j_aload_n (M := mL_law_) dL_law__1019 rfl ?_
  refine j_callV2 (M := mL_law_) (d' := 40) (n := 0) (As := []) (S := []) (mc' := mc) (ms' := ms) (rc' := rc) (rs' := rs) dL_law__1020 cvL_172 (by decide) (by decide) (hsh 0 _ rfl) rfl (Nat.le_of_ble_eq_true rfl) (by omega) (by omega) (jS_mono hcl ?_)
  rintro o h ⟨X, J, F', rfl, hC, hq⟩
  rcases hq with ⟨c0, rfl⟩ | ⟨c0, E, rfl, hT⟩
  rotate_left
  · exact absurd hT (by simp)
  refine j_wrap (M := mL_law_) (pc := 1023) (L := lL i none none) (S := []) ?_
  refine j_aload_n (M := mL_law_) (L := lL i none none) dL_law__1023 rfl ?_
  refine j_callV2 (M := mL_law_) (d' := 40) (n := 0) (As := []) (S := [jI (jwr r)]) (mc' := 0) (ms' := 0) (rc' := rc) (rs' := rs) dL_law__1024 cvL_175 (by decide) (by decide) (hC.1.1 170 _ rfl) rfl (Nat.le_of_ble_eq_true rfl) (by omega) (by omega) (jS_mono (hmd X J F' hC.1 (fun a a0 a1 => hC.2.2.1 a a0 (by omega))) ?_)
  rintro o h ⟨K, r2, rfl, rfl, hr, hK⟩
  refine j_wrap (M := mL_law_) (pc := 1027) (L := lL i none none) (S := [jI (jwr r)]) ?_
  rw [hr c0]
  exact j_icmp_eq (M := mL_law_) (tgt := 2755) dL_law__1027 (by decide) (jwr_in _) (jwr_in _) (fun _ => k _ _ _ (INV_next hI.2.2.2 hC.1 hC.2.1 hC.2.2.2 hK)) (fun z => absurd rfl z)
theorem lc_14 (hI : INV b sh I F) (hb : 0 ≤ b ∧ b ≤ 800000000) (hi : 0 ≤ i) (h6 : i + 5 < G.2.2.2.1) (hn : G.2.2.2.1 < 2 ^ 31) (k : lNx G Q b i rc rs) : jW G mL_law_ 42 Q 1032 (lL i none none) [] (sh, I, F) (rc + 4) (rs + 430) := by
  have hsh := hI.1.1
  obtain ⟨c, r, M', mc, ms, ⟨hmc, hms, hcl⟩, hmd⟩ := pr_die (G := G) hI hb (p := scr G (i + 1)) (scr_in _ _)
  refine j_aload_n (M := mL_law_) dL_law__1032 rfl ?_
  refine l_arg dL_law__1033 dL_law__1034 dL_law__1036 dL_law__1037 dL_law__1038 (by omega) (by omega) hn ?_
  refine j_aload_n (M := mL_law_) dL_law__1039 rfl ?_
  refine j_callT (M := mL_law_) (d := 41) (n := 3) (As := [jR (some 0), jI (scr G (i + 1)), jR (some 184)]) (S := []) (mc' := mc) (ms' := ms) (rc' := rc) (rs' := rs) dL_law__1040 ctL_176 rfl (Nat.le_of_ble_eq_true rfl) (by omega) (by omega) (jS_mono (wr_die hsh hcl) ?_)
  rintro o h ⟨X, J, F', rfl, rfl, hP, hC, hA, h9, hv⟩
  refine j_istore (M := mL_law_) (pc := 1043) (L := lL i none none) dL_law__1043 (by decide) ?_
  refine j_aload_n (M := mL_law_) (L := lL i (some (jI c)) none) dL_law__1045 rfl ?_
  refine l_arg dL_law__1046 dL_law__1047 dL_law__1049 dL_law__1050 dL_law__1051 (by omega) (by omega) hn ?_
  refine j_callV2 (M := mL_law_) (d' := 40) (n := 1) (As := [jI (scr G (i + 1))]) (S := []) (mc' := 0) (ms' := 0) (rc' := rc) (rs' := rs) dL_law__1052 cvL_179 (by decide) (by decide) (hP.1 170 _ rfl) rfl (Nat.le_of_ble_eq_true rfl) (by omega) (by omega) (jS_mono (hmd X J F' hP hA) ?_)
  rintro o h ⟨K, r2, rfl, rfl, hr, hK⟩
  refine l_tail (pc := 1055) (off := 1670) ⟨dL_law__1055, dL_law__1057, dL_law__1058, dL_law__1061, dL_law__1063, dL_law__1068, dL_law__1070, dL_law__1073, dL_law__1074, dL_law__1075, dL_law__1076, dL_law__1078, dL_law__1079, dL_law__1080, dL_law__1085⟩ (by decide) hP.1 hK.1 (fun z => ?_) (k _ _ _ (INV_next hI.2.2.2 hP hC h9 hK))
  rw [hK.2.2.2 184 (by decide), hv z, hr z]
theorem lc_15 (hI : INV b sh I F) (hb : 0 ≤ b ∧ b ≤ 800000000) (hi : 0 ≤ i) (h6 : i + 5 < G.2.2.2.1) (hn : G.2.2.2.1 < 2 ^ 31) (k : lNx G Q b i rc rs) : jW G mL_law_ 42 Q 1088 (lL i none none) [] (sh, I, F) (rc + 4) (rs + 430) := by
  have hsh := hI.1.1
  obtain ⟨c, r, M', mc, ms, ⟨hmc, hms, hcl⟩, hmd⟩ := pr_hear (G := G) hI hb (p := scr G (i + 1)) (x := scr G (i + 2)) (scr_in _ _) (scr_in _ _)
  refine j_aload_n (M := mL_law_) dL_law__1088 rfl ?_
  refine l_arg dL_law__1089 dL_law__1090 dL_law__1092 dL_law__1093 dL_law__1094 (by omega) (by omega) hn ?_
  refine l_arg dL_law__1095 dL_law__1096 dL_law__1098 dL_law__1099 dL_law__1100 (by omega) (by omega) hn ?_
  refine j_aload_n (M := mL_law_) dL_law__1101 rfl ?_
  refine j_callT (M := mL_law_) (d := 41) (n := 4) (As := [jR (some 0), jI (scr G (i + 1)), jI (scr G (i + 2)), jR (some 184)]) (S := []) (mc' := mc) (ms' := ms) (rc' := rc) (rs' := rs) dL_law__1102 ctL_180 rfl (Nat.le_of_ble_eq_true rfl) (by omega) (by omega) (jS_mono (wr_hear hsh hcl) ?_)
  rintro o h ⟨X, J, F', rfl, rfl, hP, hC, hA, h9, hv⟩
  refine j_istore (M := mL_law_) (pc := 1105) (L := lL i none none) dL_law__1105 (by decide) ?_
  refine j_aload_n (M := mL_law_) (L := lL i (some (jI c)) none) dL_law__1107 rfl ?_
  refine l_arg dL_law__1108 dL_law__1109 dL_law__1111 dL_law__1112 dL_law__1113 (by omega) (by omega) hn ?_
  refine l_arg dL_law__1114 dL_law__1115 dL_law__1117 dL_law__1118 dL_law__1119 (by omega) (by omega) hn ?_
  refine j_callV2 (M := mL_law_) (d' := 40) (n := 2) (As := [jI (scr G (i + 1)), jI (scr G (i + 2))]) (S := []) (mc' := 0) (ms' := 0) (rc' := rc) (rs' := rs) dL_law__1120 cvL_182 (by decide) (by decide) (hP.1 170 _ rfl) rfl (Nat.le_of_ble_eq_true rfl) (by omega) (by omega) (jS_mono (hmd X J F' hP hA) ?_)
  rintro o h ⟨K, r2, rfl, rfl, hr, hK⟩
  refine l_tail (pc := 1123) (off := 1602) ⟨dL_law__1123, dL_law__1125, dL_law__1126, dL_law__1129, dL_law__1131, dL_law__1136, dL_law__1138, dL_law__1141, dL_law__1142, dL_law__1143, dL_law__1144, dL_law__1146, dL_law__1147, dL_law__1148, dL_law__1153⟩ (by decide) hP.1 hK.1 (fun z => ?_) (k _ _ _ (INV_next hI.2.2.2 hP hC h9 hK))
  rw [hK.2.2.2 184 (by decide), hv z, hr z]
theorem lc_16 (hI : INV b sh I F) (hb : 0 ≤ b ∧ b ≤ 800000000) (hi : 0 ≤ i) (h6 : i + 5 < G.2.2.2.1) (hn : G.2.2.2.1 < 2 ^ 31) (k : lNx G Q b i rc rs) : jW G mL_law_ 42 Q 1156 (lL i none none) [] (sh, I, F) (rc + 4) (rs + 430) := by
  have hsh := hI.1.1
  have h5 := Sh_185 hsh
  obtain ⟨c, r, M', mc, ms, ⟨hmc, hms, hcl⟩, hmd⟩ := pr_refound (G := G) hI hb 
  refine j_aload_n (M := mL_law_) dL_law__1156 rfl ?_
  refine j_callV2 (M := mL_law_) (d' := 40) (n := 0) (As := []) (S := []) (mc' := mc) (ms' := ms) (rc' := rc) (rs' := rs) dL_law__1157 cvL_183 (by decide) (by decide) (hsh 0 _ rfl) rfl (Nat.le_of_ble_eq_true rfl) (by omega) (by omega) (jS_mono hcl ?_)
  rintro o h ⟨X, J, F', rfl, hC, hq⟩
  rcases hq with ⟨c0, rfl⟩ | ⟨c0, E, rfl, hT⟩
  rotate_left
  · exact absurd hT (by simp)
  refine j_wrap (M := mL_law_) (pc := 1160) (L := lL i none none) (S := []) ?_
  refine j_aload_n (M := mL_law_) (L := lL i none none) dL_law__1160 rfl ?_
  refine j_callV2 (M := mL_law_) (d' := 40) (n := 0) (As := []) (S := [jI (jwr r)]) (mc' := 0) (ms' := 0) (rc' := rc) (rs' := rs) dL_law__1161 cvL_187 (by decide) (by decide) (hC.1.1 170 _ rfl) rfl (Nat.le_of_ble_eq_true rfl) (by omega) (by omega) (jS_mono (hmd X J F' hC.1 (fun a a0 a1 => hC.2.2.1 a a0 (by omega))) ?_)
  rintro o h ⟨K, r2, rfl, rfl, hr, hK⟩
  refine j_wrap (M := mL_law_) (pc := 1164) (L := lL i none none) (S := [jI (jwr r)]) ?_
  rw [hr c0]
  exact j_icmp_eq (M := mL_law_) (tgt := 2755) dL_law__1164 (by decide) (jwr_in _) (jwr_in _) (fun _ => k _ _ _ (INV_next hI.2.2.2 hC.1 hC.2.1 hC.2.2.2 hK)) (fun z => absurd rfl z)
theorem lc_17 (hI : INV b sh I F) (hb : 0 ≤ b ∧ b ≤ 800000000) (hi : 0 ≤ i) (h6 : i + 5 < G.2.2.2.1) (hn : G.2.2.2.1 < 2 ^ 31) (k : lNx G Q b i rc rs) : jW G mL_law_ 42 Q 1169 (lL i none none) [] (sh, I, F) (rc + 4) (rs + 430) := by
  have hsh := hI.1.1
  obtain ⟨c, r, M', mc, ms, ⟨hmc, hms, hcl⟩, hmd⟩ := pr_days (G := G) hI hb (n := scr G (i + 1)) (scr_in _ _)
  refine j_aload_n (M := mL_law_) dL_law__1169 rfl ?_
  refine l_arg dL_law__1170 dL_law__1171 dL_law__1173 dL_law__1174 dL_law__1175 (by omega) (by omega) hn ?_
  refine j_aload_n (M := mL_law_) dL_law__1176 rfl ?_
  refine j_callT (M := mL_law_) (d := 41) (n := 3) (As := [jR (some 0), jI (scr G (i + 1)), jR (some 184)]) (S := []) (mc' := mc) (ms' := ms) (rc' := rc) (rs' := rs) dL_law__1177 ctL_188 rfl (Nat.le_of_ble_eq_true rfl) (by omega) (by omega) (jS_mono (wr_days hsh hcl) ?_)
  rintro o h ⟨X, J, F', rfl, rfl, hP, hC, hA, h9, hv⟩
  refine j_istore (M := mL_law_) (pc := 1180) (L := lL i none none) dL_law__1180 (by decide) ?_
  refine j_aload_n (M := mL_law_) (L := lL i (some (jI c)) none) dL_law__1182 rfl ?_
  refine l_arg dL_law__1183 dL_law__1184 dL_law__1186 dL_law__1187 dL_law__1188 (by omega) (by omega) hn ?_
  refine j_callV2 (M := mL_law_) (d' := 40) (n := 1) (As := [jI (scr G (i + 1))]) (S := []) (mc' := 0) (ms' := 0) (rc' := rc) (rs' := rs) dL_law__1189 cvL_190 (by decide) (by decide) (hP.1 170 _ rfl) rfl (Nat.le_of_ble_eq_true rfl) (by omega) (by omega) (jS_mono (hmd X J F' hP hA) ?_)
  rintro o h ⟨K, r2, rfl, rfl, hr, hK⟩
  refine l_tail (pc := 1192) (off := 1533) ⟨dL_law__1192, dL_law__1194, dL_law__1195, dL_law__1198, dL_law__1200, dL_law__1205, dL_law__1207, dL_law__1210, dL_law__1211, dL_law__1212, dL_law__1213, dL_law__1215, dL_law__1216, dL_law__1217, dL_law__1222⟩ (by decide) hP.1 hK.1 (fun z => ?_) (k _ _ _ (INV_next hI.2.2.2 hP hC h9 hK))
  rw [hK.2.2.2 184 (by decide), hv z, hr z]
theorem lc_18 (hI : INV b sh I F) (hb : 0 ≤ b ∧ b ≤ 800000000) (hi : 0 ≤ i) (h6 : i + 5 < G.2.2.2.1) (hn : G.2.2.2.1 < 2 ^ 31) (k : lNx G Q b i rc rs) : jW G mL_law_ 42 Q 1225 (lL i none none) [] (sh, I, F) (rc + 4) (rs + 430) := by
  have hsh := hI.1.1
  obtain ⟨c, r, M', mc, ms, ⟨hmc, hms, hcl⟩, hmd⟩ := pr_ahead (G := G) hI hb (p := scr G (i + 1)) (k := scr G (i + 2)) (scr_in _ _) (scr_in _ _)
  refine j_aload_n (M := mL_law_) dL_law__1225 rfl ?_
  refine l_arg dL_law__1226 dL_law__1227 dL_law__1229 dL_law__1230 dL_law__1231 (by omega) (by omega) hn ?_
  refine l_arg dL_law__1232 dL_law__1233 dL_law__1235 dL_law__1236 dL_law__1237 (by omega) (by omega) hn ?_
  refine j_aload_n (M := mL_law_) dL_law__1238 rfl ?_
  refine j_callT (M := mL_law_) (d := 41) (n := 4) (As := [jR (some 0), jI (scr G (i + 1)), jI (scr G (i + 2)), jR (some 184)]) (S := []) (mc' := mc) (ms' := ms) (rc' := rc) (rs' := rs) dL_law__1239 ctL_191 rfl (Nat.le_of_ble_eq_true rfl) (by omega) (by omega) (jS_mono (wr_ahead hsh hcl) ?_)
  rintro o h ⟨X, J, F', rfl, rfl, hP, hC, hA, h9, hv⟩
  refine j_istore (M := mL_law_) (pc := 1242) (L := lL i none none) dL_law__1242 (by decide) ?_
  refine j_aload_n (M := mL_law_) (L := lL i (some (jI c)) none) dL_law__1244 rfl ?_
  refine l_arg dL_law__1245 dL_law__1246 dL_law__1248 dL_law__1249 dL_law__1250 (by omega) (by omega) hn ?_
  refine l_arg dL_law__1251 dL_law__1252 dL_law__1254 dL_law__1255 dL_law__1256 (by omega) (by omega) hn ?_
  refine j_callV2 (M := mL_law_) (d' := 40) (n := 2) (As := [jI (scr G (i + 1)), jI (scr G (i + 2))]) (S := []) (mc' := 0) (ms' := 0) (rc' := rc) (rs' := rs) dL_law__1257 cvL_193 (by decide) (by decide) (hP.1 170 _ rfl) rfl (Nat.le_of_ble_eq_true rfl) (by omega) (by omega) (jS_mono (hmd X J F' hP hA) ?_)
  rintro o h ⟨K, r2, rfl, rfl, hr, hK⟩
  refine l_tail (pc := 1260) (off := 1465) ⟨dL_law__1260, dL_law__1262, dL_law__1263, dL_law__1266, dL_law__1268, dL_law__1273, dL_law__1275, dL_law__1278, dL_law__1279, dL_law__1280, dL_law__1281, dL_law__1283, dL_law__1284, dL_law__1285, dL_law__1290⟩ (by decide) hP.1 hK.1 (fun z => ?_) (k _ _ _ (INV_next hI.2.2.2 hP hC h9 hK))
  rw [hK.2.2.2 184 (by decide), hv z, hr z]
theorem lc_19 (hI : INV b sh I F) (hb : 0 ≤ b ∧ b ≤ 800000000) (hi : 0 ≤ i) (h6 : i + 5 < G.2.2.2.1) (hn : G.2.2.2.1 < 2 ^ 31) (k : lNx G Q b i rc rs) : jW G mL_law_ 42 Q 1293 (lL i none none) [] (sh, I, F) (rc + 4) (rs + 430) := by
  have hsh := hI.1.1
  obtain ⟨c, r, M', mc, ms, ⟨hmc, hms, hcl⟩, hmd⟩ := pr_fails (G := G) hI hb (k := scr G (i + 1)) (scr_in _ _)
  refine j_aload_n (M := mL_law_) dL_law__1293 rfl ?_
  refine l_arg dL_law__1294 dL_law__1295 dL_law__1297 dL_law__1298 dL_law__1299 (by omega) (by omega) hn ?_
  refine j_aload_n (M := mL_law_) dL_law__1300 rfl ?_
  refine j_callT (M := mL_law_) (d := 41) (n := 3) (As := [jR (some 0), jI (scr G (i + 1)), jR (some 184)]) (S := []) (mc' := mc) (ms' := ms) (rc' := rc) (rs' := rs) dL_law__1301 ctL_194 rfl (Nat.le_of_ble_eq_true rfl) (by omega) (by omega) (jS_mono (wr_fails hsh hcl) ?_)
  rintro o h ⟨X, J, F', rfl, rfl, hP, hC, hA, h9, hv⟩
  refine j_istore (M := mL_law_) (pc := 1304) (L := lL i none none) dL_law__1304 (by decide) ?_
  refine j_aload_n (M := mL_law_) (L := lL i (some (jI c)) none) dL_law__1306 rfl ?_
  refine l_arg dL_law__1307 dL_law__1308 dL_law__1310 dL_law__1311 dL_law__1312 (by omega) (by omega) hn ?_
  refine j_callV2 (M := mL_law_) (d' := 40) (n := 1) (As := [jI (scr G (i + 1))]) (S := []) (mc' := 0) (ms' := 0) (rc' := rc) (rs' := rs) dL_law__1313 cvL_196 (by decide) (by decide) (hP.1 170 _ rfl) rfl (Nat.le_of_ble_eq_true rfl) (by omega) (by omega) (jS_mono (hmd X J F' hP hA) ?_)
  rintro o h ⟨K, r2, rfl, rfl, hr, hK⟩
  refine l_tailz (pc := 1316) (off := 1402) ⟨dL_law__1316, dL_law__1318, dL_law__1319, dL_law__1322, dL_law__1324, dL_law__1329, dL_law__1331, dL_law__1334, dL_law__1335, dL_law__1336, dL_law__1337, dL_law__1339, dL_law__1342, dL_law__1343, dL_law__1346, dL_law__1347, dL_law__1348, dL_law__1353⟩ (by decide) hP.1 hK.1 (fun z => ?_) (k _ _ _ (INV_next hI.2.2.2 hP hC h9 hK))
  rw [hK.2.2.2 184 (by decide), hv z, hr z]
theorem lc_20 (hI : INV b sh I F) (hb : 0 ≤ b ∧ b ≤ 800000000) (hi : 0 ≤ i) (h6 : i + 5 < G.2.2.2.1) (hn : G.2.2.2.1 < 2 ^ 31) (k : lNx G Q b i rc rs) : jW G mL_law_ 42 Q 1356 (lL i none none) [] (sh, I, F) (rc + 4) (rs + 430) := by
  have hsh := hI.1.1
  have h5 := Sh_185 hsh
  obtain ⟨c, r, M', mc, ms, ⟨hmc, hms, hcl⟩, hmd⟩ := pr_first (G := G) hI hb (t := jnz (scr G (i + 1))) (jnz_01 _)
  refine j_aload_n (M := mL_law_) dL_law__1356 rfl ?_
  refine l_arg dL_law__1357 dL_law__1358 dL_law__1360 dL_law__1361 dL_law__1362 (by omega) (by omega) hn ?_
  refine j_nz (M := mL_law_) dL_law__1363 dL_law__1366 dL_law__1367 dL_law__1370 (scr_in _ _) ?_
  refine j_callV2 (M := mL_law_) (d' := 40) (n := 1) (As := [jI (jnz (scr G (i + 1)))]) (S := []) (mc' := mc) (ms' := ms) (rc' := rc) (rs' := rs) dL_law__1371 cvL_197 (by decide) (by decide) (hsh 0 _ rfl) rfl (Nat.le_of_ble_eq_true rfl) (by omega) (by omega) (jS_mono hcl ?_)
  rintro o h ⟨X, J, F', rfl, hC, hq⟩
  rcases hq with ⟨c0, rfl⟩ | ⟨c0, E, rfl, hT⟩
  rotate_left
  · exact absurd hT (by simp)
  refine j_wrap (M := mL_law_) (pc := 1374) (L := lL i none none) (S := []) ?_
  refine j_aload_n (M := mL_law_) (L := lL i none none) dL_law__1374 rfl ?_
  refine l_arg dL_law__1375 dL_law__1376 dL_law__1378 dL_law__1379 dL_law__1380 (by omega) (by omega) hn ?_
  refine j_nz (M := mL_law_) dL_law__1381 dL_law__1384 dL_law__1385 dL_law__1388 (scr_in _ _) ?_
  refine j_callV2 (M := mL_law_) (d' := 40) (n := 1) (As := [jI (jnz (scr G (i + 1)))]) (S := [jI (jwr r)]) (mc' := 0) (ms' := 0) (rc' := rc) (rs' := rs) dL_law__1389 cvL_201 (by decide) (by decide) (hC.1.1 170 _ rfl) rfl (Nat.le_of_ble_eq_true rfl) (by omega) (by omega) (jS_mono (hmd X J F' hC.1 (fun a a0 a1 => hC.2.2.1 a a0 (by omega))) ?_)
  rintro o h ⟨K, r2, rfl, rfl, hr, hK⟩
  refine j_wrap (M := mL_law_) (pc := 1392) (L := lL i none none) (S := [jI (jwr r)]) ?_
  rw [hr c0]
  exact j_icmp_eq (M := mL_law_) (tgt := 2755) dL_law__1392 (by decide) (jwr_in _) (jwr_in _) (fun _ => k _ _ _ (INV_next hI.2.2.2 hC.1 hC.2.1 hC.2.2.2 hK)) (fun z => absurd rfl z)
theorem lc_21 (hI : INV b sh I F) (hb : 0 ≤ b ∧ b ≤ 800000000) (hi : 0 ≤ i) (h6 : i + 5 < G.2.2.2.1) (hn : G.2.2.2.1 < 2 ^ 31) (k : lNx G Q b i rc rs) : jW G mL_law_ 42 Q 1397 (lL i none none) [] (sh, I, F) (rc + 4) (rs + 430) := by
  have hsh := hI.1.1
  obtain ⟨c, r, M', mc, ms, ⟨hmc, hms, hcl⟩, hmd⟩ := pr_plan (G := G) hI hb (p := scr G (i + 1)) (n := scr G (i + 2)) (k := scr G (i + 3)) (scr_in _ _) (scr_in _ _) (scr_in _ _)
  refine j_aload_n (M := mL_law_) dL_law__1397 rfl ?_
  refine l_arg dL_law__1398 dL_law__1399 dL_law__1401 dL_law__1402 dL_law__1403 (by omega) (by omega) hn ?_
  refine l_arg dL_law__1404 dL_law__1405 dL_law__1407 dL_law__1408 dL_law__1409 (by omega) (by omega) hn ?_
  refine l_arg dL_law__1410 dL_law__1411 dL_law__1413 dL_law__1414 dL_law__1415 (by omega) (by omega) hn ?_
  refine j_aload_n (M := mL_law_) dL_law__1416 rfl ?_
  refine j_callT (M := mL_law_) (d := 41) (n := 5) (As := [jR (some 0), jI (scr G (i + 1)), jI (scr G (i + 2)), jI (scr G (i + 3)), jR (some 184)]) (S := []) (mc' := mc) (ms' := ms) (rc' := rc) (rs' := rs) dL_law__1417 ctL_202 rfl (Nat.le_of_ble_eq_true rfl) (by omega) (by omega) (jS_mono (wr_plan hsh hcl) ?_)
  rintro o h ⟨X, J, F', rfl, rfl, hP, hC, hA, h9, hv⟩
  refine j_istore (M := mL_law_) (pc := 1420) (L := lL i none none) dL_law__1420 (by decide) ?_
  refine j_aload_n (M := mL_law_) (L := lL i (some (jI c)) none) dL_law__1422 rfl ?_
  refine l_arg dL_law__1423 dL_law__1424 dL_law__1426 dL_law__1427 dL_law__1428 (by omega) (by omega) hn ?_
  refine l_arg dL_law__1429 dL_law__1430 dL_law__1432 dL_law__1433 dL_law__1434 (by omega) (by omega) hn ?_
  refine l_arg dL_law__1435 dL_law__1436 dL_law__1438 dL_law__1439 dL_law__1440 (by omega) (by omega) hn ?_
  refine j_callV2 (M := mL_law_) (d' := 40) (n := 3) (As := [jI (scr G (i + 1)), jI (scr G (i + 2)), jI (scr G (i + 3))]) (S := []) (mc' := 0) (ms' := 0) (rc' := rc) (rs' := rs) dL_law__1441 cvL_204 (by decide) (by decide) (hP.1 170 _ rfl) rfl (Nat.le_of_ble_eq_true rfl) (by omega) (by omega) (jS_mono (hmd X J F' hP hA) ?_)
  rintro o h ⟨K, r2, rfl, rfl, hr, hK⟩
  refine l_tail (pc := 1444) (off := 1281) ⟨dL_law__1444, dL_law__1446, dL_law__1447, dL_law__1450, dL_law__1452, dL_law__1457, dL_law__1459, dL_law__1462, dL_law__1463, dL_law__1464, dL_law__1465, dL_law__1467, dL_law__1468, dL_law__1469, dL_law__1474⟩ (by decide) hP.1 hK.1 (fun z => ?_) (k _ _ _ (INV_next hI.2.2.2 hP hC h9 hK))
  rw [hK.2.2.2 184 (by decide), hv z, hr z]
theorem lc_22 (hI : INV b sh I F) (hb : 0 ≤ b ∧ b ≤ 800000000) (hi : 0 ≤ i) (h6 : i + 5 < G.2.2.2.1) (hn : G.2.2.2.1 < 2 ^ 31) (k : lNx G Q b i rc rs) : jW G mL_law_ 42 Q 1477 (lL i none none) [] (sh, I, F) (rc + 4) (rs + 430) := by
  have hsh := hI.1.1
  obtain ⟨c, r, M', mc, ms, ⟨hmc, hms, hcl⟩, hmd⟩ := pr_cost (G := G) hI hb (p := scr G (i + 1)) (n := scr G (i + 2)) (scr_in _ _) (scr_in _ _)
  refine j_aload_n (M := mL_law_) dL_law__1477 rfl ?_
  refine l_arg dL_law__1478 dL_law__1479 dL_law__1481 dL_law__1482 dL_law__1483 (by omega) (by omega) hn ?_
  refine l_arg dL_law__1484 dL_law__1485 dL_law__1487 dL_law__1488 dL_law__1489 (by omega) (by omega) hn ?_
  refine j_aload_n (M := mL_law_) dL_law__1490 rfl ?_
  refine j_callT (M := mL_law_) (d := 41) (n := 4) (As := [jR (some 0), jI (scr G (i + 1)), jI (scr G (i + 2)), jR (some 184)]) (S := []) (mc' := mc) (ms' := ms) (rc' := rc) (rs' := rs) dL_law__1491 ctL_205 rfl (Nat.le_of_ble_eq_true rfl) (by omega) (by omega) (jS_mono (wr_cost hsh hcl) ?_)
  rintro o h ⟨X, J, F', rfl, rfl, hP, hC, hA, h9, hv⟩
  refine j_istore (M := mL_law_) (pc := 1494) (L := lL i none none) dL_law__1494 (by decide) ?_
  refine j_aload_n (M := mL_law_) (L := lL i (some (jI c)) none) dL_law__1496 rfl ?_
  refine l_arg dL_law__1497 dL_law__1498 dL_law__1500 dL_law__1501 dL_law__1502 (by omega) (by omega) hn ?_
  refine l_arg dL_law__1503 dL_law__1504 dL_law__1506 dL_law__1507 dL_law__1508 (by omega) (by omega) hn ?_
  refine j_callV2 (M := mL_law_) (d' := 40) (n := 2) (As := [jI (scr G (i + 1)), jI (scr G (i + 2))]) (S := []) (mc' := 0) (ms' := 0) (rc' := rc) (rs' := rs) dL_law__1509 cvL_207 (by decide) (by decide) (hP.1 170 _ rfl) rfl (Nat.le_of_ble_eq_true rfl) (by omega) (by omega) (jS_mono (hmd X J F' hP hA) ?_)
  rintro o h ⟨K, r2, rfl, rfl, hr, hK⟩
  refine l_tail (pc := 1512) (off := 1213) ⟨dL_law__1512, dL_law__1514, dL_law__1515, dL_law__1518, dL_law__1520, dL_law__1525, dL_law__1527, dL_law__1530, dL_law__1531, dL_law__1532, dL_law__1533, dL_law__1535, dL_law__1536, dL_law__1537, dL_law__1542⟩ (by decide) hP.1 hK.1 (fun z => ?_) (k _ _ _ (INV_next hI.2.2.2 hP hC h9 hK))
  rw [hK.2.2.2 184 (by decide), hv z, hr z]
theorem lc_23 (hI : INV b sh I F) (hb : 0 ≤ b ∧ b ≤ 800000000) (hi : 0 ≤ i) (h6 : i + 5 < G.2.2.2.1) (hn : G.2.2.2.1 < 2 ^ 31) (k : lNx G Q b i rc rs) : jW G mL_law_ 42 Q 1545 (lL i none none) [] (sh, I, F) (rc + 4) (rs + 430) := by
  have hsh := hI.1.1
  have h5 := Sh_185 hsh
  obtain ⟨c, r, M', mc, ms, ⟨hmc, hms, hcl⟩, hmd⟩ := pr_netted (G := G) hI hb 
  refine j_aload_n (M := mL_law_) dL_law__1545 rfl ?_
  refine j_callV2 (M := mL_law_) (d' := 40) (n := 0) (As := []) (S := []) (mc' := mc) (ms' := ms) (rc' := rc) (rs' := rs) dL_law__1546 cvL_208 (by decide) (by decide) (hsh 0 _ rfl) rfl (Nat.le_of_ble_eq_true rfl) (by omega) (by omega) (jS_mono hcl ?_)
  rintro o h ⟨X, J, F', rfl, hC, hq⟩
  rcases hq with ⟨c0, rfl⟩ | ⟨c0, E, rfl, hT⟩
  rotate_left
  · exact absurd hT (by simp)
  refine j_wrap (M := mL_law_) (pc := 1549) (L := lL i none none) (S := []) ?_
  refine j_aload_n (M := mL_law_) (L := lL i none none) dL_law__1549 rfl ?_
  refine j_callV2 (M := mL_law_) (d' := 40) (n := 0) (As := []) (S := [jI (jwr r)]) (mc' := 0) (ms' := 0) (rc' := rc) (rs' := rs) dL_law__1550 cvL_211 (by decide) (by decide) (hC.1.1 170 _ rfl) rfl (Nat.le_of_ble_eq_true rfl) (by omega) (by omega) (jS_mono (hmd X J F' hC.1 (fun a a0 a1 => hC.2.2.1 a a0 (by omega))) ?_)
  rintro o h ⟨K, r2, rfl, rfl, hr, hK⟩
  refine j_wrap (M := mL_law_) (pc := 1553) (L := lL i none none) (S := [jI (jwr r)]) ?_
  rw [hr c0]
  exact j_icmp_eq (M := mL_law_) (tgt := 2755) dL_law__1553 (by decide) (jwr_in _) (jwr_in _) (fun _ => k _ _ _ (INV_next hI.2.2.2 hC.1 hC.2.1 hC.2.2.2 hK)) (fun z => absurd rfl z)
theorem lc_24 (hI : INV b sh I F) (hb : 0 ≤ b ∧ b ≤ 800000000) (hi : 0 ≤ i) (h6 : i + 5 < G.2.2.2.1) (hn : G.2.2.2.1 < 2 ^ 31) (k : lNx G Q b i rc rs) : jW G mL_law_ 42 Q 1558 (lL i none none) [] (sh, I, F) (rc + 4) (rs + 430) := by
  have hsh := hI.1.1
  obtain ⟨c, r, M', mc, ms, ⟨hmc, hms, hcl⟩, hmd⟩ := pr_ring (G := G) hI hb (p := scr G (i + 1)) (scr_in _ _)
  refine j_aload_n (M := mL_law_) dL_law__1558 rfl ?_
  refine l_arg dL_law__1559 dL_law__1560 dL_law__1562 dL_law__1563 dL_law__1564 (by omega) (by omega) hn ?_
  refine j_aload_n (M := mL_law_) dL_law__1565 rfl ?_
  refine j_callT (M := mL_law_) (d := 41) (n := 3) (As := [jR (some 0), jI (scr G (i + 1)), jR (some 184)]) (S := []) (mc' := mc) (ms' := ms) (rc' := rc) (rs' := rs) dL_law__1566 ctL_212 rfl (Nat.le_of_ble_eq_true rfl) (by omega) (by omega) (jS_mono (wr_ring hsh hcl) ?_)
  rintro o h ⟨X, J, F', rfl, rfl, hP, hC, hA, h9, hv⟩
  refine j_istore (M := mL_law_) (pc := 1569) (L := lL i none none) dL_law__1569 (by decide) ?_
  refine j_aload_n (M := mL_law_) (L := lL i (some (jI c)) none) dL_law__1571 rfl ?_
  refine l_arg dL_law__1572 dL_law__1573 dL_law__1575 dL_law__1576 dL_law__1577 (by omega) (by omega) hn ?_
  refine j_callV2 (M := mL_law_) (d' := 40) (n := 1) (As := [jI (scr G (i + 1))]) (S := []) (mc' := 0) (ms' := 0) (rc' := rc) (rs' := rs) dL_law__1578 cvL_214 (by decide) (by decide) (hP.1 170 _ rfl) rfl (Nat.le_of_ble_eq_true rfl) (by omega) (by omega) (jS_mono (hmd X J F' hP hA) ?_)
  rintro o h ⟨K, r2, rfl, rfl, hr, hK⟩
  refine l_tail (pc := 1581) (off := 1144) ⟨dL_law__1581, dL_law__1583, dL_law__1584, dL_law__1587, dL_law__1589, dL_law__1594, dL_law__1596, dL_law__1599, dL_law__1600, dL_law__1601, dL_law__1602, dL_law__1604, dL_law__1605, dL_law__1606, dL_law__1611⟩ (by decide) hP.1 hK.1 (fun z => ?_) (k _ _ _ (INV_next hI.2.2.2 hP hC h9 hK))
  rw [hK.2.2.2 184 (by decide), hv z, hr z]
end
