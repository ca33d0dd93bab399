/-! THE LAW: its wrappers, words -/
theorem clL_13 : Cond.classLink RL 13 xIae ∈ lw_good := lw_in 722 (by decide +kernel) (by decide +kernel)
theorem clL_15 : Cond.classLink RL 15 xUoe ∈ lw_good := lw_in 723 (by decide +kernel) (by decide +kernel)
theorem clL_24 : Cond.classLink RL 24 xIob ∈ lw_good := lw_in 1035 (by decide +kernel) (by decide +kernel)
theorem clL_26 : Cond.classLink RL 26 xNse ∈ lw_good := lw_in 1036 (by decide +kernel) (by decide +kernel)
theorem clL_37 : Cond.classLink RL 37 xIse ∈ lw_good := lw_in 1117 (by decide +kernel) (by decide +kernel)
theorem cs_xIae : Cond.castable xIae xIae ∈ lw_tbl := List.mem_of_getElem? (i := 857) (by decide +kernel)
theorem xs_xIae : xIae ∈ jzXs := by decide +kernel
theorem cs_xUoe : Cond.castable xUoe xUoe ∈ lw_tbl := List.mem_of_getElem? (i := 927) (by decide +kernel)
theorem xs_xUoe : xUoe ∈ jzXs := by decide +kernel
theorem cs_xIob : Cond.castable xIob xIob ∈ lw_tbl := List.mem_of_getElem? (i := 1047) (by decide +kernel)
theorem xs_xIob : xIob ∈ jzXs := by decide +kernel
theorem cs_xNse : Cond.castable xNse xNse ∈ lw_tbl := List.mem_of_getElem? (i := 1075) (by decide +kernel)
theorem xs_xNse : xNse ∈ jzXs := by decide +kernel
theorem cs_xIse : Cond.castable xIse xIse ∈ lw_tbl := List.mem_of_getElem? (i := 1128) (by decide +kernel)
theorem xs_xIse : xIse ∈ jzXs := by decide +kernel
theorem ctL_130 : jCT RL 130 2 mL_bank := ⟨lw_in 719 (by decide +kernel) (by decide +kernel), lw_in 720 (by decide +kernel) (by decide +kernel), lw_in 98 (by decide +kernel) (by decide +kernel), lw_in 721 (by decide +kernel) (by decide +kernel), by decide +kernel, by decide, by decide⟩
theorem ctL_139 : jCT RL 139 2 mL_law := ⟨lw_in 941 (by decide +kernel) (by decide +kernel), lw_in 942 (by decide +kernel) (by decide +kernel), lw_in 98 (by decide +kernel) (by decide +kernel), lw_in 943 (by decide +kernel) (by decide +kernel), by decide +kernel, by decide, by decide⟩
theorem ctL_146 : jCT RL 146 4 mL_person := ⟨lw_in 1032 (by decide +kernel) (by decide +kernel), lw_in 1033 (by decide +kernel) (by decide +kernel), lw_in 98 (by decide +kernel) (by decide +kernel), lw_in 1034 (by decide +kernel) (by decide +kernel), by decide +kernel, by decide, by decide⟩
theorem ctL_150 : jCT RL 150 4 mL_pain := ⟨lw_in 1089 (by decide +kernel) (by decide +kernel), lw_in 1090 (by decide +kernel) (by decide +kernel), lw_in 98 (by decide +kernel) (by decide +kernel), lw_in 1091 (by decide +kernel) (by decide +kernel), by decide +kernel, by decide, by decide⟩
theorem ctL_153 : jCT RL 153 4 mL_owed := ⟨lw_in 1102 (by decide +kernel) (by decide +kernel), lw_in 1103 (by decide +kernel) (by decide +kernel), lw_in 98 (by decide +kernel) (by decide +kernel), lw_in 1104 (by decide +kernel) (by decide +kernel), by decide +kernel, by decide, by decide⟩
theorem ctL_156 : jCT RL 156 4 mL_today := ⟨lw_in 1114 (by decide +kernel) (by decide +kernel), lw_in 1115 (by decide +kernel) (by decide +kernel), lw_in 98 (by decide +kernel) (by decide +kernel), lw_in 1116 (by decide +kernel) (by decide +kernel), by decide +kernel, by decide, by decide⟩
theorem ctL_159 : jCT RL 159 4 mL_put := ⟨lw_in 1146 (by decide +kernel) (by decide +kernel), lw_in 1147 (by decide +kernel) (by decide +kernel), lw_in 98 (by decide +kernel) (by decide +kernel), lw_in 1148 (by decide +kernel) (by decide +kernel), by decide +kernel, by decide, by decide⟩
theorem ctL_162 : jCT RL 162 4 mL_draw := ⟨lw_in 1164 (by decide +kernel) (by decide +kernel), lw_in 1165 (by decide +kernel) (by decide +kernel), lw_in 98 (by decide +kernel) (by decide +kernel), lw_in 1166 (by decide +kernel) (by decide +kernel), by decide +kernel, by decide, by decide⟩
theorem ctL_165 : jCT RL 165 5 mL_cheque := ⟨lw_in 1172 (by decide +kernel) (by decide +kernel), lw_in 1173 (by decide +kernel) (by decide +kernel), lw_in 98 (by decide +kernel) (by decide +kernel), lw_in 1174 (by decide +kernel) (by decide +kernel), by decide +kernel, by decide, by decide⟩
theorem ctL_169 : jCT RL 169 5 mL_owe := ⟨lw_in 1180 (by decide +kernel) (by decide +kernel), lw_in 1181 (by decide +kernel) (by decide +kernel), lw_in 98 (by decide +kernel) (by decide +kernel), lw_in 1182 (by decide +kernel) (by decide +kernel), by decide +kernel, by decide, by decide⟩
theorem ctL_176 : jCT RL 176 3 mL_die := ⟨lw_in 1188 (by decide +kernel) (by decide +kernel), lw_in 1189 (by decide +kernel) (by decide +kernel), lw_in 98 (by decide +kernel) (by decide +kernel), lw_in 1190 (by decide +kernel) (by decide +kernel), by decide +kernel, by decide, by decide⟩
theorem ctL_180 : jCT RL 180 4 mL_hear := ⟨lw_in 1195 (by decide +kernel) (by decide +kernel), lw_in 1196 (by decide +kernel) (by decide +kernel), lw_in 98 (by decide +kernel) (by decide +kernel), lw_in 1197 (by decide +kernel) (by decide +kernel), by decide +kernel, by decide, by decide⟩
theorem ctL_188 : jCT RL 188 3 mL_days := ⟨lw_in 1202 (by decide +kernel) (by decide +kernel), lw_in 1203 (by decide +kernel) (by decide +kernel), lw_in 98 (by decide +kernel) (by decide +kernel), lw_in 1204 (by decide +kernel) (by decide +kernel), by decide +kernel, by decide, by decide⟩
theorem ctL_191 : jCT RL 191 4 mL_ahead := ⟨lw_in 1218 (by decide +kernel) (by decide +kernel), lw_in 1219 (by decide +kernel) (by decide +kernel), lw_in 98 (by decide +kernel) (by decide +kernel), lw_in 1220 (by decide +kernel) (by decide +kernel), by decide +kernel, by decide, by decide⟩
theorem ctL_194 : jCT RL 194 3 mL_fails := ⟨lw_in 1225 (by decide +kernel) (by decide +kernel), lw_in 1226 (by decide +kernel) (by decide +kernel), lw_in 98 (by decide +kernel) (by decide +kernel), lw_in 1227 (by decide +kernel) (by decide +kernel), by decide +kernel, by decide, by decide⟩
theorem ctL_202 : jCT RL 202 5 mL_plan := ⟨lw_in 1232 (by decide +kernel) (by decide +kernel), lw_in 1233 (by decide +kernel) (by decide +kernel), lw_in 98 (by decide +kernel) (by decide +kernel), lw_in 1234 (by decide +kernel) (by decide +kernel), by decide +kernel, by decide, by decide⟩
theorem ctL_205 : jCT RL 205 4 mL_cost := ⟨lw_in 1251 (by decide +kernel) (by decide +kernel), lw_in 1252 (by decide +kernel) (by decide +kernel), lw_in 98 (by decide +kernel) (by decide +kernel), lw_in 1253 (by decide +kernel) (by decide +kernel), by decide +kernel, by decide, by decide⟩
theorem ctL_212 : jCT RL 212 3 mL_ring := ⟨lw_in 1262 (by decide +kernel) (by decide +kernel), lw_in 1263 (by decide +kernel) (by decide +kernel), lw_in 98 (by decide +kernel) (by decide +kernel), lw_in 1264 (by decide +kernel) (by decide +kernel), by decide +kernel, by decide, by decide⟩
theorem ctL_215 : jCT RL 215 4 mL_run := ⟨lw_in 1276 (by decide +kernel) (by decide +kernel), lw_in 1277 (by decide +kernel) (by decide +kernel), lw_in 98 (by decide +kernel) (by decide +kernel), lw_in 1278 (by decide +kernel) (by decide +kernel), by decide +kernel, by decide, by decide⟩
theorem ctL_231 : jCT RL 231 5 mL_saint := ⟨lw_in 1284 (by decide +kernel) (by decide +kernel), lw_in 1285 (by decide +kernel) (by decide +kernel), lw_in 98 (by decide +kernel) (by decide +kernel), lw_in 1286 (by decide +kernel) (by decide +kernel), by decide +kernel, by decide, by decide⟩
theorem ctL_235 : jCT RL 235 4 mL_share := ⟨lw_in 1297 (by decide +kernel) (by decide +kernel), lw_in 1298 (by decide +kernel) (by decide +kernel), lw_in 98 (by decide +kernel) (by decide +kernel), lw_in 1299 (by decide +kernel) (by decide +kernel), by decide +kernel, by decide, by decide⟩
theorem ctL_238 : jCT RL 238 4 mL_shares := ⟨lw_in 1307 (by decide +kernel) (by decide +kernel), lw_in 1308 (by decide +kernel) (by decide +kernel), lw_in 98 (by decide +kernel) (by decide +kernel), lw_in 1309 (by decide +kernel) (by decide +kernel), by decide +kernel, by decide, by decide⟩
theorem ctL_241 : jCT RL 241 3 mL_could := ⟨lw_in 1318 (by decide +kernel) (by decide +kernel), lw_in 1319 (by decide +kernel) (by decide +kernel), lw_in 98 (by decide +kernel) (by decide +kernel), lw_in 1320 (by decide +kernel) (by decide +kernel), by decide +kernel, by decide, by decide⟩
theorem ctL_252 : jCT RL 252 5 mL_peak := ⟨lw_in 1328 (by decide +kernel) (by decide +kernel), lw_in 1329 (by decide +kernel) (by decide +kernel), lw_in 98 (by decide +kernel) (by decide +kernel), lw_in 1330 (by decide +kernel) (by decide +kernel), by decide +kernel, by decide, by decide⟩
theorem ctL_255 : jCT RL 255 3 mL_needed := ⟨lw_in 1335 (by decide +kernel) (by decide +kernel), lw_in 1336 (by decide +kernel) (by decide +kernel), lw_in 98 (by decide +kernel) (by decide +kernel), lw_in 1337 (by decide +kernel) (by decide +kernel), by decide +kernel, by decide, by decide⟩
theorem ctL_262 : jCT RL 262 3 mL_rank := ⟨lw_in 1343 (by decide +kernel) (by decide +kernel), lw_in 1344 (by decide +kernel) (by decide +kernel), lw_in 98 (by decide +kernel) (by decide +kernel), lw_in 1345 (by decide +kernel) (by decide +kernel), by decide +kernel, by decide, by decide⟩
theorem ctL_269 : jCT RL 269 4 mL_trial := ⟨lw_in 1350 (by decide +kernel) (by decide +kernel), lw_in 1351 (by decide +kernel) (by decide +kernel), lw_in 98 (by decide +kernel) (by decide +kernel), lw_in 1352 (by decide +kernel) (by decide +kernel), by decide +kernel, by decide, by decide⟩
theorem ctL_272 : jCT RL 272 4 mL_span := ⟨lw_in 1361 (by decide +kernel) (by decide +kernel), lw_in 1362 (by decide +kernel) (by decide +kernel), lw_in 98 (by decide +kernel) (by decide +kernel), lw_in 1363 (by decide +kernel) (by decide +kernel), by decide +kernel, by decide, by decide⟩
theorem ctL_275 : jCT RL 275 4 mL_led := ⟨lw_in 1368 (by decide +kernel) (by decide +kernel), lw_in 1369 (by decide +kernel) (by decide +kernel), lw_in 98 (by decide +kernel) (by decide +kernel), lw_in 1370 (by decide +kernel) (by decide +kernel), by decide +kernel, by decide, by decide⟩
theorem ctL_278 : jCT RL 278 4 mL_log := ⟨lw_in 1388 (by decide +kernel) (by decide +kernel), lw_in 1389 (by decide +kernel) (by decide +kernel), lw_in 98 (by decide +kernel) (by decide +kernel), lw_in 1390 (by decide +kernel) (by decide +kernel), by decide +kernel, by decide, by decide⟩
section
variable {G : jzG} {M : jzM} {d d' pc rc rs : Nat} {Q : jzO → jzH → Prop} {L : List (Option jzV)} {S : List jzV} {h : jzH}
theorem j_callV2 {M' : jzM} {idx n i ci len mc' ms' rc' rs' : Nat} {As : List jzV} (hd : decode M.2.1 pc = .ok (.invokevirtual idx, 3)) (hw : jCV M.1.cls idx (jzCn ci) n M') (hdd : d' + 1 ≤ d) (hc1 : ci < 10) (hi : h.1[i]? = some (ci, len)) (hn : As.length = n) (h8 : (S.map jct).sum ≤ 8) (h9 : mc' + rc' ≤ rc) (h10 : ms' + rs' ≤ rs)
    (hsp : jS G d' M' (jR (some i) :: As) h mc' ms' (jK G M d Q pc L S rc' rs')) : jW G M d Q pc L (As.reverse ++ jR (some i) :: S) h rc rs := by
  intro p l e R s m args below meth c A Qc XC mc ms free n0 ad0 ad ls H locs cells slots hB hF hW hL hS hc hs
  have hAs : ∀ v ∈ jR (some i) :: As, jok h.1.length v := by
    intro v hv
    rcases List.mem_cons.mp hv with rfl | q
    · exact hS _ (List.mem_append_right _ List.mem_cons_self)
    · exact hS _ (List.mem_append_left _ (List.mem_reverse.mpr q))
  have hS2 : ∀ v ∈ S, jok h.1.length v := fun v hv => hS v (List.mem_append_right _ (List.mem_cons_of_mem _ hv))
  have hrm := jB_room hB
  have hsp2 := hsp _ (fun _ _ q => q) l hB.2.2.2.2.2.1 ad H.size hAs hW.2.2.2.1
  have he := jzC_at (G := G) (ad := ad) hi
  rw [jzE_obj hc1] at he
  have hst : (As.reverse ++ jR (some i) :: S).map (jzv G ad) = (As.map (jzv G ad)).reverse ++ .ref (ad i) :: S.map (jzv G ad) := by
    rw [List.map_append, List.map_reverse]; rfl
  refine jz_use (st0 := (As.reverse ++ jR (some i) :: S).map (jzv G ad)) (av := (Value.ref (ad i) :: As.map (jzv G ad)).toArray) hB hF hW hL hS2 (mc' := mc') (ms' := ms') (rc' := rc') (rs' := rs') (by omega) (by omega) ?_
  exact vx_runV (As := As.map (jzv G ad)) (b := ad i) (C := jzCn ci) (n := n) (nL := M.2.2.1) ⟨hB.1, hB.2.1, hB.2.2.1, hB.2.2.2.1, hB.2.2.2.2.1⟩ hsp2 (cwV n hB.2.2.2.2.1 (jz_goodV hw) (jz_wse hw.2.2.2.2.2.2.1) rfl rfl hw.2.2.2.2.2.1 ⟨by show d' + 10 + 1 ≤ R.frames; omega, by show 8 + (M'.2.2.1 + 11) + (64 * d' + 200) ≤ R.locals; have := hw.2.2.2.2.2.2.2; omega⟩) ⟨jzPc_blind, va_recv (jB_K hB) hW.1 (jz_cl ci hc1) he, jz_pre (As := jR (some i) :: As) hB hW⟩ rfl (by rw [List.length_map]; exact hn) hL.1 hst (lv_room (by rw [jct_sum]; exact h8)) hd ⟨by omega, by omega⟩
theorem ps_nil {own E : String} {pc : Nat} : jPs own pc E [] := fun z hz => by cases hz
theorem ps_cons {own E nm : String} {pc : Nat} {z : ExceptionTableEntry} {pre : List ExceptionTableEntry} (h0 : z.catchType ≠ 0) (h1 : nm ∈ jzXs) (h2 : E ∈ jzXs) (h3 : E ≠ nm) (h4 : Cond.classLink own z.catchType nm ∈ lw_good) (k : jPs own pc E pre) : jPs own pc E (z :: pre) := List.forall_mem_cons.mpr ⟨Or.inr ⟨h0, nm, h1, h2, h3, h4⟩, k⟩
/-- is it not nothing -/
def jnz (a : Int) : Int := if a = 0 then 0 else 1
theorem jnz_01 (a : Int) : jnz a = 0 ∨ jnz a = 1 := by unfold jnz; split <;> omega
theorem jnz_in (a : Int) : jin (jnz a) := by have := jnz_01 a; omega
theorem j_nz {a : Int} (d0 : decode M.2.1 pc = .ok (.ifCond .eq 7, 3)) (d3 : decode M.2.1 (pc + 3) = .ok (.iconst 1, 1)) (d4 : decode M.2.1 (pc + 4) = .ok (.goto 4, 3)) (d7 : decode M.2.1 (pc + 7) = .ok (.iconst 0, 1)) (ha : jin a) (k : jW G M d Q (pc + 8) L (jI (jnz a) :: S) h rc rs) : jW G M d Q pc L (jI a :: S) h rc rs := by
  refine j_if_eq (tgt := pc + 7) d0 (by omega) ha (fun c => ?_) (fun c => ?_)
  · have e : jnz a = 0 := by unfold jnz; rw [if_pos c]
    rw [e] at k
    exact j_iconst d7 k
  · have e : jnz a = 1 := by unfold jnz; rw [if_neg c]
    rw [e] at k
    exact j_iconst d3 (j_goto (tgt := pc + 8) d4 (by omega) k)
theorem j_nzl {a : Int} (d0 : decode M.2.1 pc = .ok (.ifCond .eq 7, 3)) (d3 : decode M.2.1 (pc + 3) = .ok (.lconst 1, 1)) (d4 : decode M.2.1 (pc + 4) = .ok (.goto 4, 3)) (d7 : decode M.2.1 (pc + 7) = .ok (.lconst 0, 1)) (k : jW G M d Q (pc + 8) L (jJ (jnz (jwr a)) :: S) h rc rs) : jW G M d Q pc L (jI a :: S) h rc rs := by
  refine j_wrap (j_if_eq (tgt := pc + 7) d0 (by omega) (jwr_in a) (fun c => ?_) (fun c => ?_))
  · have e : jnz (jwr a) = 0 := by unfold jnz; rw [if_pos c]
    rw [e] at k
    exact j_lconst d7 k
  · have e : jnz (jwr a) = 1 := by unfold jnz; rw [if_neg c]
    rw [e] at k
    exact j_lconst d3 (j_goto (tgt := pc + 8) d4 (by omega) k)
end
/-- the end of the class's call -/
def pQ (sh : List (Nat × Nat)) (I M' : Nat → Int → Int) (T : List String) (c r : Int) : jzO → jzH → Prop := fun o h => ∃ X J F', h = (sh ++ X, J, F') ∧ CaL sh.length (sh ++ X) I M' J F' ∧ ((c = 0 ∧ o = .inl (some (jI r))) ∨ (0 < c ∧ ∃ E, o = .inr E ∧ T[(c - 1).toNat]? = some E))
/-- the end of a wrapper -/
def wQ (sh : List (Nat × Nat)) (I M' : Nat → Int → Int) (c v : Int) : jzO → jzH → Prop := fun o h => ∃ X J F', o = .inl (some (jI c)) ∧ h = (sh ++ X, J, F') ∧ Pl (sh ++ X) F' ∧ CR (sh ++ X) J F' M' ∧ Ag I J ∧ J 159 0 = I 159 0 ∧ (c = 0 → J 184 0 = v)
section
variable {G : jzG} {sh X : List (Nat × Nat)} {I M' J : Nat → Int → Int} {F F' : Nat → Int → Option Nat} {c r v : Int} {mc ms : Nat}
theorem Sh_185 (h : ShOK sh) : 185 ≤ sh.length := (List.getElem?_eq_some_iff.mp (h 184 _ rfl)).1
theorem wQ_0 (hs : ShOK sh) (h : CaL sh.length (sh ++ X) I M' J F') (e : c = 0) : wQ sh I M' c v (.inl (some (jI 0))) (sh ++ X, jup J 184 0 v, F') := by
  have h5 := Sh_185 hs
  exact ⟨X, _, F', by rw [e], rfl, h.1, CR_fr h.2.1 (fun a ha => jup_ne _ _ _ (by omega)), fun a a0 a1 => by rw [jup_ne _ _ _ (by omega)]; exact h.2.2.1 a a0 (by omega), by rw [jup_ne _ _ _ (by decide)]; exact h.2.2.2, fun _ => jup_same _ _ _ _⟩
theorem wQ_c (hs : ShOK sh) (h : CaL sh.length (sh ++ X) I M' J F') {k : Int} (e : c = k) (c0 : 0 < c) : wQ sh I M' c v (.inl (some (jI k))) (sh ++ X, J, F') := by
  have h5 := Sh_185 hs
  exact ⟨X, _, F', by rw [e], rfl, h.1, h.2.1, fun a a0 a1 => h.2.2.1 a a0 (by omega), h.2.2.2, fun z => by omega⟩
theorem pT1 {E1 E : String} (h : 0 < c) (hT : [E1][(c - 1).toNat]? = some E) : c = 1 ∧ E = E1 := by
  obtain ⟨n, hn⟩ : ∃ n : Nat, (c - 1).toNat = n := ⟨_, rfl⟩
  rw [hn] at hT
  rcases n with _ | n
  · exact ⟨by omega, (Option.some.inj hT).symm⟩
  · cases hT
theorem pT2 {E1 E2 E : String} (h : 0 < c) (hT : [E1, E2][(c - 1).toNat]? = some E) : (c = 1 ∧ E = E1) ∨ (c = 2 ∧ E = E2) := by
  obtain ⟨n, hn⟩ : ∃ n : Nat, (c - 1).toNat = n := ⟨_, rfl⟩
  rw [hn] at hT
  rcases n with _ | _ | n
  · exact Or.inl ⟨by omega, (Option.some.inj hT).symm⟩
  · exact Or.inr ⟨by omega, (Option.some.inj hT).symm⟩
  · cases hT
theorem pT3 {E1 E2 E3 E : String} (h : 0 < c) (hT : [E1, E2, E3][(c - 1).toNat]? = some E) : (c = 1 ∧ E = E1) ∨ (c = 2 ∧ E = E2) ∨ (c = 3 ∧ E = E3) := by
  obtain ⟨n, hn⟩ : ∃ n : Nat, (c - 1).toNat = n := ⟨_, rfl⟩
  rw [hn] at hT
  rcases n with _ | _ | _ | n
  · exact Or.inl ⟨by omega, (Option.some.inj hT).symm⟩
  · exact Or.inr (Or.inl ⟨by omega, (Option.some.inj hT).symm⟩)
  · exact Or.inr (Or.inr ⟨by omega, (Option.some.inj hT).symm⟩)
  · cases hT

theorem wr_bank (hsh : ShOK sh) (hc : jS G 40 mX11_bank (jR (some 0) :: []) (sh, I, F) mc ms (pQ sh I M' [xIae, xUoe] c r)) : jS G 41 mL_bank [jR (some 0), jR (some 184)] (sh, I, F) mc ms (wQ sh I M' c (jwr r)) := by
  refine jS_ofT [some (jR (some 0)), some (jR (some 184)), none] (by decide +kernel) (by decide) (by simp [jone]) (Nat.le_of_ble_eq_true rfl) rfl (fun hok => ?_)
  refine j_aload_n dL_bank_0 rfl ?_
  refine j_iconst dL_bank_1 ?_
  refine j_aload_n dL_bank_2 rfl ?_
  refine j_callV (n := 0) (As := []) (S := [jI 0, jR (some 184)]) (mc' := mc) (ms' := ms) (rc' := 0) (rs' := 0) dL_bank_3 cvL_7 (by decide) (hsh 0 _ rfl) rfl (Nat.le_of_ble_eq_true rfl) (Nat.le_refl _) (Nat.le_refl _) (jS_mono hc ?_)
  rintro o h ⟨X, J, F', rfl, hC, hq⟩
  rcases hq with ⟨c0, rfl⟩ | ⟨c0, E, rfl, hT⟩
  · refine j_i2l dL_bank_6 ?_
    refine j_lastore (i := 184) (len := 1) dL_bank_7 (hC.1.1 184 _ rfl) (by decide) (by decide) (jwr_in _) ?_
    refine j_goto (tgt := 17) dL_bank_8 (by decide) ?_
    refine j_iconst dL_bank_17 ?_
    exact j_iret dL_bank_18 rfl (wQ_0 hsh hC c0)
  · rcases pT2 c0 hT with ⟨c1, rfl⟩ | ⟨c1, rfl⟩
    · refine j_catch_n (i := 2) [] ⟨0, 8, 11, 13⟩ [⟨0, 8, 14, 15⟩] rfl ps_nil (by decide) (by decide) clL_13 cs_xIae dL_bank_11 (by decide) ?_
      refine j_iconst dL_bank_12 ?_
      exact j_iret dL_bank_13 rfl (wQ_c hsh hC c1 c0)
    · refine j_catch_n (i := 2) [⟨0, 8, 11, 13⟩] ⟨0, 8, 14, 15⟩ [] rfl (ps_cons (by decide) xs_xIae xs_xUoe (by decide) clL_13 ps_nil) (by decide) (by decide) clL_15 cs_xUoe dL_bank_14 (by decide) ?_
      refine j_iconst dL_bank_15 ?_
      exact j_iret dL_bank_16 rfl (wQ_c hsh hC c1 c0)
theorem wr_law (hsh : ShOK sh) (hc : jS G 40 mX11_law (jR (some 0) :: []) (sh, I, F) mc ms (pQ sh I M' [xIae] c r)) : jS G 41 mL_law [jR (some 0), jR (some 184)] (sh, I, F) mc ms (wQ sh I M' c (jwr r)) := by
  refine jS_ofT [some (jR (some 0)), some (jR (some 184)), none] (by decide +kernel) (by decide) (by simp [jone]) (Nat.le_of_ble_eq_true rfl) rfl (fun hok => ?_)
  refine j_aload_n dL_law_0 rfl ?_
  refine j_iconst dL_law_1 ?_
  refine j_aload_n dL_law_2 rfl ?_
  refine j_callV (n := 0) (As := []) (S := [jI 0, jR (some 184)]) (mc' := mc) (ms' := ms) (rc' := 0) (rs' := 0) dL_law_3 cvL_17 (by decide) (hsh 0 _ rfl) rfl (Nat.le_of_ble_eq_true rfl) (Nat.le_refl _) (Nat.le_refl _) (jS_mono hc ?_)
  rintro o h ⟨X, J, F', rfl, hC, hq⟩
  rcases hq with ⟨c0, rfl⟩ | ⟨c0, E, rfl, hT⟩
  · refine j_i2l dL_law_6 ?_
    refine j_lastore (i := 184) (len := 1) dL_law_7 (hC.1.1 184 _ rfl) (by decide) (by decide) (jwr_in _) ?_
    refine j_goto (tgt := 14) dL_law_8 (by decide) ?_
    refine j_iconst dL_law_14 ?_
    exact j_iret dL_law_15 rfl (wQ_0 hsh hC c0)
  · obtain ⟨c1, rfl⟩ := pT1 c0 hT
    refine j_catch_n (i := 2) [] ⟨0, 8, 11, 13⟩ [] rfl ps_nil (by decide) (by decide) clL_13 cs_xIae dL_law_11 (by decide) ?_
    refine j_iconst dL_law_12 ?_
    exact j_iret dL_law_13 rfl (wQ_c hsh hC c1 c0)
theorem wr_person {x1 x2 : Int} (hsh : ShOK sh) (hc : jS G 40 mX11_person (jR (some 0) :: [jI x1, jI x2]) (sh, I, F) mc ms (pQ sh I M' [xIob, xNse] c r)) : jS G 41 mL_person [jR (some 0), jI x1, jI x2, jR (some 184)] (sh, I, F) mc ms (wQ sh I M' c (jwr r)) := by
  refine jS_ofT [some (jR (some 0)), some (jI x1), some (jI x2), some (jR (some 184)), none] (by decide +kernel) (by decide) (by simp [jone]) (Nat.le_of_ble_eq_true rfl) rfl (fun hok => ?_)
  refine j_aload_n dL_person_0 rfl ?_
  refine j_iconst dL_person_1 ?_
  refine j_aload_n dL_person_2 rfl ?_
  refine j_iload_n dL_person_3 rfl ?_
  refine j_iload_n dL_person_4 rfl ?_
  refine j_callV (n := 2) (As := [jI x1, jI x2]) (S := [jI 0, jR (some 184)]) (mc' := mc) (ms' := ms) (rc' := 0) (rs' := 0) dL_person_5 cvL_20 (by decide) (hsh 0 _ rfl) rfl (Nat.le_of_ble_eq_true rfl) (Nat.le_refl _) (Nat.le_refl _) (jS_mono hc ?_)
  rintro o h ⟨X, J, F', rfl, hC, hq⟩
  rcases hq with ⟨c0, rfl⟩ | ⟨c0, E, rfl, hT⟩
  · refine j_i2l dL_person_8 ?_
    refine j_lastore (i := 184) (len := 1) dL_person_9 (hC.1.1 184 _ rfl) (by decide) (by decide) (jwr_in _) ?_
    refine j_goto (tgt := 21) dL_person_10 (by decide) ?_
    refine j_iconst dL_person_21 ?_
    exact j_iret dL_person_22 rfl (wQ_0 hsh hC c0)
  · rcases pT2 c0 hT with ⟨c1, rfl⟩ | ⟨c1, rfl⟩
    · refine j_catch (i := 4) [] ⟨0, 10, 13, 24⟩ [⟨0, 10, 17, 26⟩] rfl ps_nil (by decide) (by decide) clL_24 cs_xIob dL_person_13 (by decide) ?_
      refine j_iconst dL_person_15 ?_
      exact j_iret dL_person_16 rfl (wQ_c hsh hC c1 c0)
    · refine j_catch (i := 4) [⟨0, 10, 13, 24⟩] ⟨0, 10, 17, 26⟩ [] rfl (ps_cons (by decide) xs_xIob xs_xNse (by decide) clL_24 ps_nil) (by decide) (by decide) clL_26 cs_xNse dL_person_17 (by decide) ?_
      refine j_iconst dL_person_19 ?_
      exact j_iret dL_person_20 rfl (wQ_c hsh hC c1 c0)
theorem wr_pain {x1 x2 : Int} (hsh : ShOK sh) (hc : jS G 40 mX11_pain (jR (some 0) :: [jI x1, jI x2]) (sh, I, F) mc ms (pQ sh I M' [xIob] c r)) : jS G 41 mL_pain [jR (some 0), jI x1, jI x2, jR (some 184)] (sh, I, F) mc ms (wQ sh I M' c (jwr r)) := by
  refine jS_ofT [some (jR (some 0)), some (jI x1), some (jI x2), some (jR (some 184)), none] (by decide +kernel) (by decide) (by simp [jone]) (Nat.le_of_ble_eq_true rfl) rfl (fun hok => ?_)
  refine j_aload_n dL_pain_0 rfl ?_
  refine j_iconst dL_pain_1 ?_
  refine j_aload_n dL_pain_2 rfl ?_
  refine j_iload_n dL_pain_3 rfl ?_
  refine j_iload_n dL_pain_4 rfl ?_
  refine j_callV (n := 2) (As := [jI x1, jI x2]) (S := [jI 0, jR (some 184)]) (mc' := mc) (ms' := ms) (rc' := 0) (rs' := 0) dL_pain_5 cvL_28 (by decide) (hsh 0 _ rfl) rfl (Nat.le_of_ble_eq_true rfl) (Nat.le_refl _) (Nat.le_refl _) (jS_mono hc ?_)
  rintro o h ⟨X, J, F', rfl, hC, hq⟩
  rcases hq with ⟨c0, rfl⟩ | ⟨c0, E, rfl, hT⟩
  · refine j_i2l dL_pain_8 ?_
    refine j_lastore (i := 184) (len := 1) dL_pain_9 (hC.1.1 184 _ rfl) (by decide) (by decide) (jwr_in _) ?_
    refine j_goto (tgt := 17) dL_pain_10 (by decide) ?_
    refine j_iconst dL_pain_17 ?_
    exact j_iret dL_pain_18 rfl (wQ_0 hsh hC c0)
  · obtain ⟨c1, rfl⟩ := pT1 c0 hT
    refine j_catch (i := 4) [] ⟨0, 10, 13, 24⟩ [] rfl ps_nil (by decide) (by decide) clL_24 cs_xIob dL_pain_13 (by decide) ?_
    refine j_iconst dL_pain_15 ?_
    exact j_iret dL_pain_16 rfl (wQ_c hsh hC c1 c0)
theorem wr_owed {x1 x2 : Int} (hsh : ShOK sh) (hc : jS G 40 mX11_owed (jR (some 0) :: [jI x1, jI x2]) (sh, I, F) mc ms (pQ sh I M' [xIob, xIae] c r)) : jS G 41 mL_owed [jR (some 0), jI x1, jI x2, jR (some 184)] (sh, I, F) mc ms (wQ sh I M' c (jwr r)) := by
  refine jS_ofT [some (jR (some 0)), some (jI x1), some (jI x2), some (jR (some 184)), none] (by decide +kernel) (by decide) (by simp [jone]) (Nat.le_of_ble_eq_true rfl) rfl (fun hok => ?_)
  refine j_aload_n dL_owed_0 rfl ?_
  refine j_iconst dL_owed_1 ?_
  refine j_aload_n dL_owed_2 rfl ?_
  refine j_iload_n dL_owed_3 rfl ?_
  refine j_iload_n dL_owed_4 rfl ?_
  refine j_callV (n := 2) (As := [jI x1, jI x2]) (S := [jI 0, jR (some 184)]) (mc' := mc) (ms' := ms) (rc' := 0) (rs' := 0) dL_owed_5 cvL_31 (by decide) (hsh 0 _ rfl) rfl (Nat.le_of_ble_eq_true rfl) (Nat.le_refl _) (Nat.le_refl _) (jS_mono hc ?_)
  rintro o h ⟨X, J, F', rfl, hC, hq⟩
  rcases hq with ⟨c0, rfl⟩ | ⟨c0, E, rfl, hT⟩
  · refine j_i2l dL_owed_8 ?_
    refine j_lastore (i := 184) (len := 1) dL_owed_9 (hC.1.1 184 _ rfl) (by decide) (by decide) (jwr_in _) ?_
    refine j_goto (tgt := 21) dL_owed_10 (by decide) ?_
    refine j_iconst dL_owed_21 ?_
    exact j_iret dL_owed_22 rfl (wQ_0 hsh hC c0)
  · rcases pT2 c0 hT with ⟨c1, rfl⟩ | ⟨c1, rfl⟩
    · refine j_catch (i := 4) [] ⟨0, 10, 13, 24⟩ [⟨0, 10, 17, 13⟩] rfl ps_nil (by decide) (by decide) clL_24 cs_xIob dL_owed_13 (by decide) ?_
      refine j_iconst dL_owed_15 ?_
      exact j_iret dL_owed_16 rfl (wQ_c hsh hC c1 c0)
    · refine j_catch (i := 4) [⟨0, 10, 13, 24⟩] ⟨0, 10, 17, 13⟩ [] rfl (ps_cons (by decide) xs_xIob xs_xIae (by decide) clL_24 ps_nil) (by decide) (by decide) clL_13 cs_xIae dL_owed_17 (by decide) ?_
      refine j_iconst dL_owed_19 ?_
      exact j_iret dL_owed_20 rfl (wQ_c hsh hC c1 c0)
theorem wr_today {x1 x2 : Int} (hsh : ShOK sh) (hc : jS G 40 mX11_today (jR (some 0) :: [jI x1, jI x2]) (sh, I, F) mc ms (pQ sh I M' [xIob, xIse, xNse] c r)) : jS G 41 mL_today [jR (some 0), jI x1, jI x2, jR (some 184)] (sh, I, F) mc ms (wQ sh I M' c (jwr r)) := by
  refine jS_ofT [some (jR (some 0)), some (jI x1), some (jI x2), some (jR (some 184)), none] (by decide +kernel) (by decide) (by simp [jone]) (Nat.le_of_ble_eq_true rfl) rfl (fun hok => ?_)
  refine j_aload_n dL_today_0 rfl ?_
  refine j_iconst dL_today_1 ?_
  refine j_aload_n dL_today_2 rfl ?_
  refine j_iload_n dL_today_3 rfl ?_
  refine j_iload_n dL_today_4 rfl ?_
  refine j_callV (n := 2) (As := [jI x1, jI x2]) (S := [jI 0, jR (some 184)]) (mc' := mc) (ms' := ms) (rc' := 0) (rs' := 0) dL_today_5 cvL_34 (by decide) (hsh 0 _ rfl) rfl (Nat.le_of_ble_eq_true rfl) (Nat.le_refl _) (Nat.le_refl _) (jS_mono hc ?_)
  rintro o h ⟨X, J, F', rfl, hC, hq⟩
  rcases hq with ⟨c0, rfl⟩ | ⟨c0, E, rfl, hT⟩
  · refine j_i2l dL_today_8 ?_
    refine j_lastore (i := 184) (len := 1) dL_today_9 (hC.1.1 184 _ rfl) (by decide) (by decide) (jwr_in _) ?_
    refine j_goto (tgt := 25) dL_today_10 (by decide) ?_
    refine j_iconst dL_today_25 ?_
    exact j_iret dL_today_26 rfl (wQ_0 hsh hC c0)
  · rcases pT3 c0 hT with ⟨c1, rfl⟩ | ⟨c1, rfl⟩ | ⟨c1, rfl⟩
    · refine j_catch (i := 4) [] ⟨0, 10, 13, 24⟩ [⟨0, 10, 17, 37⟩, ⟨0, 10, 21, 26⟩] rfl ps_nil (by decide) (by decide) clL_24 cs_xIob dL_today_13 (by decide) ?_
      refine j_iconst dL_today_15 ?_
      exact j_iret dL_today_16 rfl (wQ_c hsh hC c1 c0)
    · refine j_catch (i := 4) [⟨0, 10, 13, 24⟩] ⟨0, 10, 17, 37⟩ [⟨0, 10, 21, 26⟩] rfl (ps_cons (by decide) xs_xIob xs_xIse (by decide) clL_24 ps_nil) (by decide) (by decide) clL_37 cs_xIse dL_today_17 (by decide) ?_
      refine j_iconst dL_today_19 ?_
      exact j_iret dL_today_20 rfl (wQ_c hsh hC c1 c0)
    · refine j_catch (i := 4) [⟨0, 10, 13, 24⟩, ⟨0, 10, 17, 37⟩] ⟨0, 10, 21, 26⟩ [] rfl (ps_cons (by decide) xs_xIob xs_xNse (by decide) clL_24 (ps_cons (by decide) xs_xIse xs_xNse (by decide) clL_37 ps_nil)) (by decide) (by decide) clL_26 cs_xNse dL_today_21 (by decide) ?_
      refine j_iconst dL_today_23 ?_
      exact j_iret dL_today_24 rfl (wQ_c hsh hC c1 c0)
theorem wr_put {x1 x2 : Int} (hsh : ShOK sh) (hc : jS G 40 mX11_put (jR (some 0) :: [jI x1, jI x2]) (sh, I, F) mc ms (pQ sh I M' [xIob, xIae, xIse] c r)) : jS G 41 mL_put [jR (some 0), jI x1, jI x2, jR (some 184)] (sh, I, F) mc ms (wQ sh I M' c (jwr r)) := by
  refine jS_ofT [some (jR (some 0)), some (jI x1), some (jI x2), some (jR (some 184)), none] (by decide +kernel) (by decide) (by simp [jone]) (Nat.le_of_ble_eq_true rfl) rfl (fun hok => ?_)
  refine j_aload_n dL_put_0 rfl ?_
  refine j_iconst dL_put_1 ?_
  refine j_aload_n dL_put_2 rfl ?_
  refine j_iload_n dL_put_3 rfl ?_
  refine j_iload_n dL_put_4 rfl ?_
  refine j_callV (n := 2) (As := [jI x1, jI x2]) (S := [jI 0, jR (some 184)]) (mc' := mc) (ms' := ms) (rc' := 0) (rs' := 0) dL_put_5 cvL_39 (by decide) (hsh 0 _ rfl) rfl (Nat.le_of_ble_eq_true rfl) (Nat.le_refl _) (Nat.le_refl _) (jS_mono hc ?_)
  rintro o h ⟨X, J, F', rfl, hC, hq⟩
  rcases hq with ⟨c0, rfl⟩ | ⟨c0, E, rfl, hT⟩
  · refine j_i2l dL_put_8 ?_
    refine j_lastore (i := 184) (len := 1) dL_put_9 (hC.1.1 184 _ rfl) (by decide) (by decide) (jwr_in _) ?_
    refine j_goto (tgt := 25) dL_put_10 (by decide) ?_
    refine j_iconst dL_put_25 ?_
    exact j_iret dL_put_26 rfl (wQ_0 hsh hC c0)
  · rcases pT3 c0 hT with ⟨c1, rfl⟩ | ⟨c1, rfl⟩ | ⟨c1, rfl⟩
    · refine j_catch (i := 4) [] ⟨0, 10, 13, 24⟩ [⟨0, 10, 17, 13⟩, ⟨0, 10, 21, 37⟩] rfl ps_nil (by decide) (by decide) clL_24 cs_xIob dL_put_13 (by decide) ?_
      refine j_iconst dL_put_15 ?_
      exact j_iret dL_put_16 rfl (wQ_c hsh hC c1 c0)
    · refine j_catch (i := 4) [⟨0, 10, 13, 24⟩] ⟨0, 10, 17, 13⟩ [⟨0, 10, 21, 37⟩] rfl (ps_cons (by decide) xs_xIob xs_xIae (by decide) clL_24 ps_nil) (by decide) (by decide) clL_13 cs_xIae dL_put_17 (by decide) ?_
      refine j_iconst dL_put_19 ?_
      exact j_iret dL_put_20 rfl (wQ_c hsh hC c1 c0)
    · refine j_catch (i := 4) [⟨0, 10, 13, 24⟩, ⟨0, 10, 17, 13⟩] ⟨0, 10, 21, 37⟩ [] rfl (ps_cons (by decide) xs_xIob xs_xIse (by decide) clL_24 (ps_cons (by decide) xs_xIae xs_xIse (by decide) clL_13 ps_nil)) (by decide) (by decide) clL_37 cs_xIse dL_put_21 (by decide) ?_
      refine j_iconst dL_put_23 ?_
      exact j_iret dL_put_24 rfl (wQ_c hsh hC c1 c0)
theorem wr_draw {x1 x2 : Int} (hsh : ShOK sh) (hc : jS G 40 mX11_draw (jR (some 0) :: [jI x1, jI x2]) (sh, I, F) mc ms (pQ sh I M' [xIob, xIae, xIse] c r)) : jS G 41 mL_draw [jR (some 0), jI x1, jI x2, jR (some 184)] (sh, I, F) mc ms (wQ sh I M' c (jwr r)) := by
  refine jS_ofT [some (jR (some 0)), some (jI x1), some (jI x2), some (jR (some 184)), none] (by decide +kernel) (by decide) (by simp [jone]) (Nat.le_of_ble_eq_true rfl) rfl (fun hok => ?_)
  refine j_aload_n dL_draw_0 rfl ?_
  refine j_iconst dL_draw_1 ?_
  refine j_aload_n dL_draw_2 rfl ?_
  refine j_iload_n dL_draw_3 rfl ?_
  refine j_iload_n dL_draw_4 rfl ?_
  refine j_callV (n := 2) (As := [jI x1, jI x2]) (S := [jI 0, jR (some 184)]) (mc' := mc) (ms' := ms) (rc' := 0) (rs' := 0) dL_draw_5 cvL_42 (by decide) (hsh 0 _ rfl) rfl (Nat.le_of_ble_eq_true rfl) (Nat.le_refl _) (Nat.le_refl _) (jS_mono hc ?_)
  rintro o h ⟨X, J, F', rfl, hC, hq⟩
  rcases hq with ⟨c0, rfl⟩ | ⟨c0, E, rfl, hT⟩
  · refine j_i2l dL_draw_8 ?_
    refine j_lastore (i := 184) (len := 1) dL_draw_9 (hC.1.1 184 _ rfl) (by decide) (by decide) (jwr_in _) ?_
    refine j_goto (tgt := 25) dL_draw_10 (by decide) ?_
    refine j_iconst dL_draw_25 ?_
    exact j_iret dL_draw_26 rfl (wQ_0 hsh hC c0)
  · rcases pT3 c0 hT with ⟨c1, rfl⟩ | ⟨c1, rfl⟩ | ⟨c1, rfl⟩
    · refine j_catch (i := 4) [] ⟨0, 10, 13, 24⟩ [⟨0, 10, 17, 13⟩, ⟨0, 10, 21, 37⟩] rfl ps_nil (by decide) (by decide) clL_24 cs_xIob dL_draw_13 (by decide) ?_
      refine j_iconst dL_draw_15 ?_
      exact j_iret dL_draw_16 rfl (wQ_c hsh hC c1 c0)
    · refine j_catch (i := 4) [⟨0, 10, 13, 24⟩] ⟨0, 10, 17, 13⟩ [⟨0, 10, 21, 37⟩] rfl (ps_cons (by decide) xs_xIob xs_xIae (by decide) clL_24 ps_nil) (by decide) (by decide) clL_13 cs_xIae dL_draw_17 (by decide) ?_
      refine j_iconst dL_draw_19 ?_
      exact j_iret dL_draw_20 rfl (wQ_c hsh hC c1 c0)
    · refine j_catch (i := 4) [⟨0, 10, 13, 24⟩, ⟨0, 10, 17, 13⟩] ⟨0, 10, 21, 37⟩ [] rfl (ps_cons (by decide) xs_xIob xs_xIse (by decide) clL_24 (ps_cons (by decide) xs_xIae xs_xIse (by decide) clL_13 ps_nil)) (by decide) (by decide) clL_37 cs_xIse dL_draw_21 (by decide) ?_
      refine j_iconst dL_draw_23 ?_
      exact j_iret dL_draw_24 rfl (wQ_c hsh hC c1 c0)
theorem wr_cheque {x1 x2 x3 : Int} (hsh : ShOK sh) (hc : jS G 40 mX11_cheque (jR (some 0) :: [jI x1, jI x2, jI x3]) (sh, I, F) mc ms (pQ sh I M' [xIob, xIae, xIse] c r)) : jS G 41 mL_cheque [jR (some 0), jI x1, jI x2, jI x3, jR (some 184)] (sh, I, F) mc ms (wQ sh I M' c (jwr r)) := by
  refine jS_ofT [some (jR (some 0)), some (jI x1), some (jI x2), some (jI x3), some (jR (some 184)), none] (by decide +kernel) (by decide) (by simp [jone]) (Nat.le_of_ble_eq_true rfl) rfl (fun hok => ?_)
  refine j_aload dL_cheque_0 rfl ?_
  refine j_iconst dL_cheque_2 ?_
  refine j_aload_n dL_cheque_3 rfl ?_
  refine j_iload_n dL_cheque_4 rfl ?_
  refine j_iload_n dL_cheque_5 rfl ?_
  refine j_iload_n dL_cheque_6 rfl ?_
  refine j_callV (n := 3) (As := [jI x1, jI x2, jI x3]) (S := [jI 0, jR (some 184)]) (mc' := mc) (ms' := ms) (rc' := 0) (rs' := 0) dL_cheque_7 cvL_45 (by decide) (hsh 0 _ rfl) rfl (Nat.le_of_ble_eq_true rfl) (Nat.le_refl _) (Nat.le_refl _) (jS_mono hc ?_)
  rintro o h ⟨X, J, F', rfl, hC, hq⟩
  rcases hq with ⟨c0, rfl⟩ | ⟨c0, E, rfl, hT⟩
  · refine j_i2l dL_cheque_10 ?_
    refine j_lastore (i := 184) (len := 1) dL_cheque_11 (hC.1.1 184 _ rfl) (by decide) (by decide) (jwr_in _) ?_
    refine j_goto (tgt := 27) dL_cheque_12 (by decide) ?_
    refine j_iconst dL_cheque_27 ?_
    exact j_iret dL_cheque_28 rfl (wQ_0 hsh hC c0)
  · rcases pT3 c0 hT with ⟨c1, rfl⟩ | ⟨c1, rfl⟩ | ⟨c1, rfl⟩
    · refine j_catch (i := 5) [] ⟨0, 12, 15, 24⟩ [⟨0, 12, 19, 13⟩, ⟨0, 12, 23, 37⟩] rfl ps_nil (by decide) (by decide) clL_24 cs_xIob dL_cheque_15 (by decide) ?_
      refine j_iconst dL_cheque_17 ?_
      exact j_iret dL_cheque_18 rfl (wQ_c hsh hC c1 c0)
    · refine j_catch (i := 5) [⟨0, 12, 15, 24⟩] ⟨0, 12, 19, 13⟩ [⟨0, 12, 23, 37⟩] rfl (ps_cons (by decide) xs_xIob xs_xIae (by decide) clL_24 ps_nil) (by decide) (by decide) clL_13 cs_xIae dL_cheque_19 (by decide) ?_
      refine j_iconst dL_cheque_21 ?_
      exact j_iret dL_cheque_22 rfl (wQ_c hsh hC c1 c0)
    · refine j_catch (i := 5) [⟨0, 12, 15, 24⟩, ⟨0, 12, 19, 13⟩] ⟨0, 12, 23, 37⟩ [] rfl (ps_cons (by decide) xs_xIob xs_xIse (by decide) clL_24 (ps_cons (by decide) xs_xIae xs_xIse (by decide) clL_13 ps_nil)) (by decide) (by decide) clL_37 cs_xIse dL_cheque_23 (by decide) ?_
      refine j_iconst dL_cheque_25 ?_
      exact j_iret dL_cheque_26 rfl (wQ_c hsh hC c1 c0)
theorem wr_owe {x1 x2 x3 : Int} (hsh : ShOK sh) (hc : jS G 40 mX11_owe (jR (some 0) :: [jI x1, jI x2, jI x3]) (sh, I, F) mc ms (pQ sh I M' [xIob, xIae, xIse] c r)) : jS G 41 mL_owe [jR (some 0), jI x1, jI x2, jI x3, jR (some 184)] (sh, I, F) mc ms (wQ sh I M' c (jwr r)) := by
  refine jS_ofT [some (jR (some 0)), some (jI x1), some (jI x2), some (jI x3), some (jR (some 184)), none] (by decide +kernel) (by decide) (by simp [jone]) (Nat.le_of_ble_eq_true rfl) rfl (fun hok => ?_)
  refine j_aload dL_owe_0 rfl ?_
  refine j_iconst dL_owe_2 ?_
  refine j_aload_n dL_owe_3 rfl ?_
  refine j_iload_n dL_owe_4 rfl ?_
  refine j_iload_n dL_owe_5 rfl ?_
  refine j_iload_n dL_owe_6 rfl ?_
  refine j_callV (n := 3) (As := [jI x1, jI x2, jI x3]) (S := [jI 0, jR (some 184)]) (mc' := mc) (ms' := ms) (rc' := 0) (rs' := 0) dL_owe_7 cvL_49 (by decide) (hsh 0 _ rfl) rfl (Nat.le_of_ble_eq_true rfl) (Nat.le_refl _) (Nat.le_refl _) (jS_mono hc ?_)
  rintro o h ⟨X, J, F', rfl, hC, hq⟩
  rcases hq with ⟨c0, rfl⟩ | ⟨c0, E, rfl, hT⟩
  · refine j_i2l dL_owe_10 ?_
    refine j_lastore (i := 184) (len := 1) dL_owe_11 (hC.1.1 184 _ rfl) (by decide) (by decide) (jwr_in _) ?_
    refine j_goto (tgt := 27) dL_owe_12 (by decide) ?_
    refine j_iconst dL_owe_27 ?_
    exact j_iret dL_owe_28 rfl (wQ_0 hsh hC c0)
  · rcases pT3 c0 hT with ⟨c1, rfl⟩ | ⟨c1, rfl⟩ | ⟨c1, rfl⟩
    · refine j_catch (i := 5) [] ⟨0, 12, 15, 24⟩ [⟨0, 12, 19, 13⟩, ⟨0, 12, 23, 37⟩] rfl ps_nil (by decide) (by decide) clL_24 cs_xIob dL_owe_15 (by decide) ?_
      refine j_iconst dL_owe_17 ?_
      exact j_iret dL_owe_18 rfl (wQ_c hsh hC c1 c0)
    · refine j_catch (i := 5) [⟨0, 12, 15, 24⟩] ⟨0, 12, 19, 13⟩ [⟨0, 12, 23, 37⟩] rfl (ps_cons (by decide) xs_xIob xs_xIae (by decide) clL_24 ps_nil) (by decide) (by decide) clL_13 cs_xIae dL_owe_19 (by decide) ?_
      refine j_iconst dL_owe_21 ?_
      exact j_iret dL_owe_22 rfl (wQ_c hsh hC c1 c0)
    · refine j_catch (i := 5) [⟨0, 12, 15, 24⟩, ⟨0, 12, 19, 13⟩] ⟨0, 12, 23, 37⟩ [] rfl (ps_cons (by decide) xs_xIob xs_xIse (by decide) clL_24 (ps_cons (by decide) xs_xIae xs_xIse (by decide) clL_13 ps_nil)) (by decide) (by decide) clL_37 cs_xIse dL_owe_23 (by decide) ?_
      refine j_iconst dL_owe_25 ?_
      exact j_iret dL_owe_26 rfl (wQ_c hsh hC c1 c0)
theorem wr_die {x1 : Int} (hsh : ShOK sh) (hc : jS G 40 mX11_die (jR (some 0) :: [jI x1]) (sh, I, F) mc ms (pQ sh I M' [xIob, xIse] c r)) : jS G 41 mL_die [jR (some 0), jI x1, jR (some 184)] (sh, I, F) mc ms (wQ sh I M' c (jwr r)) := by
  refine jS_ofT [some (jR (some 0)), some (jI x1), some (jR (some 184)), none] (by decide +kernel) (by decide) (by simp [jone]) (Nat.le_of_ble_eq_true rfl) rfl (fun hok => ?_)
  refine j_aload_n dL_die_0 rfl ?_
  refine j_iconst dL_die_1 ?_
  refine j_aload_n dL_die_2 rfl ?_
  refine j_iload_n dL_die_3 rfl ?_
  refine j_callV (n := 1) (As := [jI x1]) (S := [jI 0, jR (some 184)]) (mc' := mc) (ms' := ms) (rc' := 0) (rs' := 0) dL_die_4 cvL_52 (by decide) (hsh 0 _ rfl) rfl (Nat.le_of_ble_eq_true rfl) (Nat.le_refl _) (Nat.le_refl _) (jS_mono hc ?_)
  rintro o h ⟨X, J, F', rfl, hC, hq⟩
  rcases hq with ⟨c0, rfl⟩ | ⟨c0, E, rfl, hT⟩
  · refine j_i2l dL_die_7 ?_
    refine j_lastore (i := 184) (len := 1) dL_die_8 (hC.1.1 184 _ rfl) (by decide) (by decide) (jwr_in _) ?_
    refine j_goto (tgt := 18) dL_die_9 (by decide) ?_
    refine j_iconst dL_die_18 ?_
    exact j_iret dL_die_19 rfl (wQ_0 hsh hC c0)
  · rcases pT2 c0 hT with ⟨c1, rfl⟩ | ⟨c1, rfl⟩
    · refine j_catch_n (i := 3) [] ⟨0, 9, 12, 24⟩ [⟨0, 9, 15, 37⟩] rfl ps_nil (by decide) (by decide) clL_24 cs_xIob dL_die_12 (by decide) ?_
      refine j_iconst dL_die_13 ?_
      exact j_iret dL_die_14 rfl (wQ_c hsh hC c1 c0)
    · refine j_catch_n (i := 3) [⟨0, 9, 12, 24⟩] ⟨0, 9, 15, 37⟩ [] rfl (ps_cons (by decide) xs_xIob xs_xIse (by decide) clL_24 ps_nil) (by decide) (by decide) clL_37 cs_xIse dL_die_15 (by decide) ?_
      refine j_iconst dL_die_16 ?_
      exact j_iret dL_die_17 rfl (wQ_c hsh hC c1 c0)
theorem wr_hear {x1 x2 : Int} (hsh : ShOK sh) (hc : jS G 40 mX11_hear (jR (some 0) :: [jI x1, jI x2]) (sh, I, F) mc ms (pQ sh I M' [xIob] c r)) : jS G 41 mL_hear [jR (some 0), jI x1, jI x2, jR (some 184)] (sh, I, F) mc ms (wQ sh I M' c (jwr r)) := by
  refine jS_ofT [some (jR (some 0)), some (jI x1), some (jI x2), some (jR (some 184)), none] (by decide +kernel) (by decide) (by simp [jone]) (Nat.le_of_ble_eq_true rfl) rfl (fun hok => ?_)
  refine j_aload_n dL_hear_0 rfl ?_
  refine j_iconst dL_hear_1 ?_
  refine j_aload_n dL_hear_2 rfl ?_
  refine j_iload_n dL_hear_3 rfl ?_
  refine j_iload_n dL_hear_4 rfl ?_
  refine j_callV (n := 2) (As := [jI x1, jI x2]) (S := [jI 0, jR (some 184)]) (mc' := mc) (ms' := ms) (rc' := 0) (rs' := 0) dL_hear_5 cvL_56 (by decide) (hsh 0 _ rfl) rfl (Nat.le_of_ble_eq_true rfl) (Nat.le_refl _) (Nat.le_refl _) (jS_mono hc ?_)
  rintro o h ⟨X, J, F', rfl, hC, hq⟩
  rcases hq with ⟨c0, rfl⟩ | ⟨c0, E, rfl, hT⟩
  · refine j_i2l dL_hear_8 ?_
    refine j_lastore (i := 184) (len := 1) dL_hear_9 (hC.1.1 184 _ rfl) (by decide) (by decide) (jwr_in _) ?_
    refine j_goto (tgt := 17) dL_hear_10 (by decide) ?_
    refine j_iconst dL_hear_17 ?_
    exact j_iret dL_hear_18 rfl (wQ_0 hsh hC c0)
  · obtain ⟨c1, rfl⟩ := pT1 c0 hT
    refine j_catch (i := 4) [] ⟨0, 10, 13, 24⟩ [] rfl ps_nil (by decide) (by decide) clL_24 cs_xIob dL_hear_13 (by decide) ?_
    refine j_iconst dL_hear_15 ?_
    exact j_iret dL_hear_16 rfl (wQ_c hsh hC c1 c0)
theorem wr_days {x1 : Int} (hsh : ShOK sh) (hc : jS G 40 mX11_days (jR (some 0) :: [jI x1]) (sh, I, F) mc ms (pQ sh I M' [xIae] c r)) : jS G 41 mL_days [jR (some 0), jI x1, jR (some 184)] (sh, I, F) mc ms (wQ sh I M' c (jwr r)) := by
  refine jS_ofT [some (jR (some 0)), some (jI x1), some (jR (some 184)), none] (by decide +kernel) (by decide) (by simp [jone]) (Nat.le_of_ble_eq_true rfl) rfl (fun hok => ?_)
  refine j_aload_n dL_days_0 rfl ?_
  refine j_iconst dL_days_1 ?_
  refine j_aload_n dL_days_2 rfl ?_
  refine j_iload_n dL_days_3 rfl ?_
  refine j_callV (n := 1) (As := [jI x1]) (S := [jI 0, jR (some 184)]) (mc' := mc) (ms' := ms) (rc' := 0) (rs' := 0) dL_days_4 cvL_59 (by decide) (hsh 0 _ rfl) rfl (Nat.le_of_ble_eq_true rfl) (Nat.le_refl _) (Nat.le_refl _) (jS_mono hc ?_)
  rintro o h ⟨X, J, F', rfl, hC, hq⟩
  rcases hq with ⟨c0, rfl⟩ | ⟨c0, E, rfl, hT⟩
  · refine j_i2l dL_days_7 ?_
    refine j_lastore (i := 184) (len := 1) dL_days_8 (hC.1.1 184 _ rfl) (by decide) (by decide) (jwr_in _) ?_
    refine j_goto (tgt := 15) dL_days_9 (by decide) ?_
    refine j_iconst dL_days_15 ?_
    exact j_iret dL_days_16 rfl (wQ_0 hsh hC c0)
  · obtain ⟨c1, rfl⟩ := pT1 c0 hT
    refine j_catch_n (i := 3) [] ⟨0, 9, 12, 13⟩ [] rfl ps_nil (by decide) (by decide) clL_13 cs_xIae dL_days_12 (by decide) ?_
    refine j_iconst dL_days_13 ?_
    exact j_iret dL_days_14 rfl (wQ_c hsh hC c1 c0)
theorem wr_ahead {x1 x2 : Int} (hsh : ShOK sh) (hc : jS G 40 mX11_ahead (jR (some 0) :: [jI x1, jI x2]) (sh, I, F) mc ms (pQ sh I M' [xIob, xIae] c r)) : jS G 41 mL_ahead [jR (some 0), jI x1, jI x2, jR (some 184)] (sh, I, F) mc ms (wQ sh I M' c (jwr r)) := by
  refine jS_ofT [some (jR (some 0)), some (jI x1), some (jI x2), some (jR (some 184)), none] (by decide +kernel) (by decide) (by simp [jone]) (Nat.le_of_ble_eq_true rfl) rfl (fun hok => ?_)
  refine j_aload_n dL_ahead_0 rfl ?_
  refine j_iconst dL_ahead_1 ?_
  refine j_aload_n dL_ahead_2 rfl ?_
  refine j_iload_n dL_ahead_3 rfl ?_
  refine j_iload_n dL_ahead_4 rfl ?_
  refine j_callV (n := 2) (As := [jI x1, jI x2]) (S := [jI 0, jR (some 184)]) (mc' := mc) (ms' := ms) (rc' := 0) (rs' := 0) dL_ahead_5 cvL_62 (by decide) (hsh 0 _ rfl) rfl (Nat.le_of_ble_eq_true rfl) (Nat.le_refl _) (Nat.le_refl _) (jS_mono hc ?_)
  rintro o h ⟨X, J, F', rfl, hC, hq⟩
  rcases hq with ⟨c0, rfl⟩ | ⟨c0, E, rfl, hT⟩
  · refine j_i2l dL_ahead_8 ?_
    refine j_lastore (i := 184) (len := 1) dL_ahead_9 (hC.1.1 184 _ rfl) (by decide) (by decide) (jwr_in _) ?_
    refine j_goto (tgt := 21) dL_ahead_10 (by decide) ?_
    refine j_iconst dL_ahead_21 ?_
    exact j_iret dL_ahead_22 rfl (wQ_0 hsh hC c0)
  · rcases pT2 c0 hT with ⟨c1, rfl⟩ | ⟨c1, rfl⟩
    · refine j_catch (i := 4) [] ⟨0, 10, 13, 24⟩ [⟨0, 10, 17, 13⟩] rfl ps_nil (by decide) (by decide) clL_24 cs_xIob dL_ahead_13 (by decide) ?_
      refine j_iconst dL_ahead_15 ?_
      exact j_iret dL_ahead_16 rfl (wQ_c hsh hC c1 c0)
    · refine j_catch (i := 4) [⟨0, 10, 13, 24⟩] ⟨0, 10, 17, 13⟩ [] rfl (ps_cons (by decide) xs_xIob xs_xIae (by decide) clL_24 ps_nil) (by decide) (by decide) clL_13 cs_xIae dL_ahead_17 (by decide) ?_
      refine j_iconst dL_ahead_19 ?_
      exact j_iret dL_ahead_20 rfl (wQ_c hsh hC c1 c0)
theorem wr_fails {x1 : Int} (hsh : ShOK sh) (hc : jS G 40 mX11_fails (jR (some 0) :: [jI x1]) (sh, I, F) mc ms (pQ sh I M' [xIae] c r)) : jS G 41 mL_fails [jR (some 0), jI x1, jR (some 184)] (sh, I, F) mc ms (wQ sh I M' c (jnz (jwr r))) := by
  refine jS_ofT [some (jR (some 0)), some (jI x1), some (jR (some 184)), none] (by decide +kernel) (by decide) (by simp [jone]) (Nat.le_of_ble_eq_true rfl) rfl (fun hok => ?_)
  refine j_aload_n dL_fails_0 rfl ?_
  refine j_iconst dL_fails_1 ?_
  refine j_aload_n dL_fails_2 rfl ?_
  refine j_iload_n dL_fails_3 rfl ?_
  refine j_callV (n := 1) (As := [jI x1]) (S := [jI 0, jR (some 184)]) (mc' := mc) (ms' := ms) (rc' := 0) (rs' := 0) dL_fails_4 cvL_65 (by decide) (hsh 0 _ rfl) rfl (Nat.le_of_ble_eq_true rfl) (Nat.le_refl _) (Nat.le_refl _) (jS_mono hc ?_)
  rintro o h ⟨X, J, F', rfl, hC, hq⟩
  rcases hq with ⟨c0, rfl⟩ | ⟨c0, E, rfl, hT⟩
  · refine j_nzl dL_fails_7 dL_fails_10 dL_fails_11 dL_fails_14 ?_
    refine j_lastore (i := 184) (len := 1) dL_fails_15 (hC.1.1 184 _ rfl) (by decide) (by decide) (jnz_in _) ?_
    refine j_goto (tgt := 22) dL_fails_16 (by decide) ?_
    refine j_iconst dL_fails_22 ?_
    exact j_iret dL_fails_23 rfl (wQ_0 hsh hC c0)
  · obtain ⟨c1, rfl⟩ := pT1 c0 hT
    refine j_catch_n (i := 3) [] ⟨0, 16, 19, 13⟩ [] rfl ps_nil (by decide) (by decide) clL_13 cs_xIae dL_fails_19 (by decide) ?_
    refine j_iconst dL_fails_20 ?_
    exact j_iret dL_fails_21 rfl (wQ_c hsh hC c1 c0)
theorem wr_plan {x1 x2 x3 : Int} (hsh : ShOK sh) (hc : jS G 40 mX11_plan (jR (some 0) :: [jI x1, jI x2, jI x3]) (sh, I, F) mc ms (pQ sh I M' [xIob, xIae] c r)) : jS G 41 mL_plan [jR (some 0), jI x1, jI x2, jI x3, jR (some 184)] (sh, I, F) mc ms (wQ sh I M' c (jwr r)) := by
  refine jS_ofT [some (jR (some 0)), some (jI x1), some (jI x2), some (jI x3), some (jR (some 184)), none] (by decide +kernel) (by decide) (by simp [jone]) (Nat.le_of_ble_eq_true rfl) rfl (fun hok => ?_)
  refine j_aload dL_plan_0 rfl ?_
  refine j_iconst dL_plan_2 ?_
  refine j_aload_n dL_plan_3 rfl ?_
  refine j_iload_n dL_plan_4 rfl ?_
  refine j_iload_n dL_plan_5 rfl ?_
  refine j_iload_n dL_plan_6 rfl ?_
  refine j_callV (n := 3) (As := [jI x1, jI x2, jI x3]) (S := [jI 0, jR (some 184)]) (mc' := mc) (ms' := ms) (rc' := 0) (rs' := 0) dL_plan_7 cvL_69 (by decide) (hsh 0 _ rfl) rfl (Nat.le_of_ble_eq_true rfl) (Nat.le_refl _) (Nat.le_refl _) (jS_mono hc ?_)
  rintro o h ⟨X, J, F', rfl, hC, hq⟩
  rcases hq with ⟨c0, rfl⟩ | ⟨c0, E, rfl, hT⟩
  · refine j_i2l dL_plan_10 ?_
    refine j_lastore (i := 184) (len := 1) dL_plan_11 (hC.1.1 184 _ rfl) (by decide) (by decide) (jwr_in _) ?_
    refine j_goto (tgt := 23) dL_plan_12 (by decide) ?_
    refine j_iconst dL_plan_23 ?_
    exact j_iret dL_plan_24 rfl (wQ_0 hsh hC c0)
  · rcases pT2 c0 hT with ⟨c1, rfl⟩ | ⟨c1, rfl⟩
    · refine j_catch (i := 5) [] ⟨0, 12, 15, 24⟩ [⟨0, 12, 19, 13⟩] rfl ps_nil (by decide) (by decide) clL_24 cs_xIob dL_plan_15 (by decide) ?_
      refine j_iconst dL_plan_17 ?_
      exact j_iret dL_plan_18 rfl (wQ_c hsh hC c1 c0)
    · refine j_catch (i := 5) [⟨0, 12, 15, 24⟩] ⟨0, 12, 19, 13⟩ [] rfl (ps_cons (by decide) xs_xIob xs_xIae (by decide) clL_24 ps_nil) (by decide) (by decide) clL_13 cs_xIae dL_plan_19 (by decide) ?_
      refine j_iconst dL_plan_21 ?_
      exact j_iret dL_plan_22 rfl (wQ_c hsh hC c1 c0)
theorem wr_cost {x1 x2 : Int} (hsh : ShOK sh) (hc : jS G 40 mX11_cost (jR (some 0) :: [jI x1, jI x2]) (sh, I, F) mc ms (pQ sh I M' [xIob, xIae] c r)) : jS G 41 mL_cost [jR (some 0), jI x1, jI x2, jR (some 184)] (sh, I, F) mc ms (wQ sh I M' c (jwr r)) := by
  refine jS_ofT [some (jR (some 0)), some (jI x1), some (jI x2), some (jR (some 184)), none] (by decide +kernel) (by decide) (by simp [jone]) (Nat.le_of_ble_eq_true rfl) rfl (fun hok => ?_)
  refine j_aload_n dL_cost_0 rfl ?_
  refine j_iconst dL_cost_1 ?_
  refine j_aload_n dL_cost_2 rfl ?_
  refine j_iload_n dL_cost_3 rfl ?_
  refine j_iload_n dL_cost_4 rfl ?_
  refine j_callV (n := 2) (As := [jI x1, jI x2]) (S := [jI 0, jR (some 184)]) (mc' := mc) (ms' := ms) (rc' := 0) (rs' := 0) dL_cost_5 cvL_72 (by decide) (hsh 0 _ rfl) rfl (Nat.le_of_ble_eq_true rfl) (Nat.le_refl _) (Nat.le_refl _) (jS_mono hc ?_)
  rintro o h ⟨X, J, F', rfl, hC, hq⟩
  rcases hq with ⟨c0, rfl⟩ | ⟨c0, E, rfl, hT⟩
  · refine j_i2l dL_cost_8 ?_
    refine j_lastore (i := 184) (len := 1) dL_cost_9 (hC.1.1 184 _ rfl) (by decide) (by decide) (jwr_in _) ?_
    refine j_goto (tgt := 21) dL_cost_10 (by decide) ?_
    refine j_iconst dL_cost_21 ?_
    exact j_iret dL_cost_22 rfl (wQ_0 hsh hC c0)
  · rcases pT2 c0 hT with ⟨c1, rfl⟩ | ⟨c1, rfl⟩
    · refine j_catch (i := 4) [] ⟨0, 10, 13, 24⟩ [⟨0, 10, 17, 13⟩] rfl ps_nil (by decide) (by decide) clL_24 cs_xIob dL_cost_13 (by decide) ?_
      refine j_iconst dL_cost_15 ?_
      exact j_iret dL_cost_16 rfl (wQ_c hsh hC c1 c0)
    · refine j_catch (i := 4) [⟨0, 10, 13, 24⟩] ⟨0, 10, 17, 13⟩ [] rfl (ps_cons (by decide) xs_xIob xs_xIae (by decide) clL_24 ps_nil) (by decide) (by decide) clL_13 cs_xIae dL_cost_17 (by decide) ?_
      refine j_iconst dL_cost_19 ?_
      exact j_iret dL_cost_20 rfl (wQ_c hsh hC c1 c0)
theorem wr_ring {x1 : Int} (hsh : ShOK sh) (hc : jS G 40 mX11_ring (jR (some 0) :: [jI x1]) (sh, I, F) mc ms (pQ sh I M' [xIob] c r)) : jS G 41 mL_ring [jR (some 0), jI x1, jR (some 184)] (sh, I, F) mc ms (wQ sh I M' c (jwr r)) := by
  refine jS_ofT [some (jR (some 0)), some (jI x1), some (jR (some 184)), none] (by decide +kernel) (by decide) (by simp [jone]) (Nat.le_of_ble_eq_true rfl) rfl (fun hok => ?_)
  refine j_aload_n dL_ring_0 rfl ?_
  refine j_iconst dL_ring_1 ?_
  refine j_aload_n dL_ring_2 rfl ?_
  refine j_iload_n dL_ring_3 rfl ?_
  refine j_callV (n := 1) (As := [jI x1]) (S := [jI 0, jR (some 184)]) (mc' := mc) (ms' := ms) (rc' := 0) (rs' := 0) dL_ring_4 cvL_75 (by decide) (hsh 0 _ rfl) rfl (Nat.le_of_ble_eq_true rfl) (Nat.le_refl _) (Nat.le_refl _) (jS_mono hc ?_)
  rintro o h ⟨X, J, F', rfl, hC, hq⟩
  rcases hq with ⟨c0, rfl⟩ | ⟨c0, E, rfl, hT⟩
  · refine j_i2l dL_ring_7 ?_
    refine j_lastore (i := 184) (len := 1) dL_ring_8 (hC.1.1 184 _ rfl) (by decide) (by decide) (jwr_in _) ?_
    refine j_goto (tgt := 15) dL_ring_9 (by decide) ?_
    refine j_iconst dL_ring_15 ?_
    exact j_iret dL_ring_16 rfl (wQ_0 hsh hC c0)
  · obtain ⟨c1, rfl⟩ := pT1 c0 hT
    refine j_catch_n (i := 3) [] ⟨0, 9, 12, 24⟩ [] rfl ps_nil (by decide) (by decide) clL_24 cs_xIob dL_ring_12 (by decide) ?_
    refine j_iconst dL_ring_13 ?_
    exact j_iret dL_ring_14 rfl (wQ_c hsh hC c1 c0)
theorem wr_run {x1 x2 : Int} (hsh : ShOK sh) (hc : jS G 40 mX11_run (jR (some 0) :: [jI x1, jI x2]) (sh, I, F) mc ms (pQ sh I M' [xIob, xIse] c r)) : jS G 41 mL_run [jR (some 0), jI x1, jI x2, jR (some 184)] (sh, I, F) mc ms (wQ sh I M' c (jwr r)) := by
  refine jS_ofT [some (jR (some 0)), some (jI x1), some (jI x2), some (jR (some 184)), none] (by decide +kernel) (by decide) (by simp [jone]) (Nat.le_of_ble_eq_true rfl) rfl (fun hok => ?_)
  refine j_aload_n dL_run_0 rfl ?_
  refine j_iconst dL_run_1 ?_
  refine j_aload_n dL_run_2 rfl ?_
  refine j_iload_n dL_run_3 rfl ?_
  refine j_iload_n dL_run_4 rfl ?_
  refine j_callV (n := 2) (As := [jI x1, jI x2]) (S := [jI 0, jR (some 184)]) (mc' := mc) (ms' := ms) (rc' := 0) (rs' := 0) dL_run_5 cvL_78 (by decide) (hsh 0 _ rfl) rfl (Nat.le_of_ble_eq_true rfl) (Nat.le_refl _) (Nat.le_refl _) (jS_mono hc ?_)
  rintro o h ⟨X, J, F', rfl, hC, hq⟩
  rcases hq with ⟨c0, rfl⟩ | ⟨c0, E, rfl, hT⟩
  · refine j_i2l dL_run_8 ?_
    refine j_lastore (i := 184) (len := 1) dL_run_9 (hC.1.1 184 _ rfl) (by decide) (by decide) (jwr_in _) ?_
    refine j_goto (tgt := 21) dL_run_10 (by decide) ?_
    refine j_iconst dL_run_21 ?_
    exact j_iret dL_run_22 rfl (wQ_0 hsh hC c0)
  · rcases pT2 c0 hT with ⟨c1, rfl⟩ | ⟨c1, rfl⟩
    · refine j_catch (i := 4) [] ⟨0, 10, 13, 24⟩ [⟨0, 10, 17, 37⟩] rfl ps_nil (by decide) (by decide) clL_24 cs_xIob dL_run_13 (by decide) ?_
      refine j_iconst dL_run_15 ?_
      exact j_iret dL_run_16 rfl (wQ_c hsh hC c1 c0)
    · refine j_catch (i := 4) [⟨0, 10, 13, 24⟩] ⟨0, 10, 17, 37⟩ [] rfl (ps_cons (by decide) xs_xIob xs_xIse (by decide) clL_24 ps_nil) (by decide) (by decide) clL_37 cs_xIse dL_run_17 (by decide) ?_
      refine j_iconst dL_run_19 ?_
      exact j_iret dL_run_20 rfl (wQ_c hsh hC c1 c0)
theorem wr_saint {x1 x2 x3 : Int} (hsh : ShOK sh) (hc : jS G 40 mX11_saint (jR (some 0) :: [jI x1, jI x2, jI x3]) (sh, I, F) mc ms (pQ sh I M' [xIob] c r)) : jS G 41 mL_saint [jR (some 0), jI x1, jI x2, jI x3, jR (some 184)] (sh, I, F) mc ms (wQ sh I M' c (jwr r)) := by
  refine jS_ofT [some (jR (some 0)), some (jI x1), some (jI x2), some (jI x3), some (jR (some 184)), none] (by decide +kernel) (by decide) (by simp [jone]) (Nat.le_of_ble_eq_true rfl) rfl (fun hok => ?_)
  refine j_aload dL_saint_0 rfl ?_
  refine j_iconst dL_saint_2 ?_
  refine j_aload_n dL_saint_3 rfl ?_
  refine j_iload_n dL_saint_4 rfl ?_
  refine j_iload_n dL_saint_5 rfl ?_
  refine j_iload_n dL_saint_6 rfl ?_
  refine j_callV (n := 3) (As := [jI x1, jI x2, jI x3]) (S := [jI 0, jR (some 184)]) (mc' := mc) (ms' := ms) (rc' := 0) (rs' := 0) dL_saint_7 cvL_82 (by decide) (hsh 0 _ rfl) rfl (Nat.le_of_ble_eq_true rfl) (Nat.le_refl _) (Nat.le_refl _) (jS_mono hc ?_)
  rintro o h ⟨X, J, F', rfl, hC, hq⟩
  rcases hq with ⟨c0, rfl⟩ | ⟨c0, E, rfl, hT⟩
  · refine j_i2l dL_saint_10 ?_
    refine j_lastore (i := 184) (len := 1) dL_saint_11 (hC.1.1 184 _ rfl) (by decide) (by decide) (jwr_in _) ?_
    refine j_goto (tgt := 19) dL_saint_12 (by decide) ?_
    refine j_iconst dL_saint_19 ?_
    exact j_iret dL_saint_20 rfl (wQ_0 hsh hC c0)
  · obtain ⟨c1, rfl⟩ := pT1 c0 hT
    refine j_catch (i := 5) [] ⟨0, 12, 15, 24⟩ [] rfl ps_nil (by decide) (by decide) clL_24 cs_xIob dL_saint_15 (by decide) ?_
    refine j_iconst dL_saint_17 ?_
    exact j_iret dL_saint_18 rfl (wQ_c hsh hC c1 c0)
theorem wr_share {x1 x2 : Int} (hsh : ShOK sh) (hc : jS G 40 mX11_share (jR (some 0) :: [jI x1, jI x2]) (sh, I, F) mc ms (pQ sh I M' [xIob, xIae, xIse] c r)) : jS G 41 mL_share [jR (some 0), jI x1, jI x2, jR (some 184)] (sh, I, F) mc ms (wQ sh I M' c (jnz (jwr r))) := by
  refine jS_ofT [some (jR (some 0)), some (jI x1), some (jI x2), some (jR (some 184)), none] (by decide +kernel) (by decide) (by simp [jone]) (Nat.le_of_ble_eq_true rfl) rfl (fun hok => ?_)
  refine j_aload_n dL_share_0 rfl ?_
  refine j_iconst dL_share_1 ?_
  refine j_aload_n dL_share_2 rfl ?_
  refine j_iload_n dL_share_3 rfl ?_
  refine j_iload_n dL_share_4 rfl ?_
  refine j_callV (n := 2) (As := [jI x1, jI x2]) (S := [jI 0, jR (some 184)]) (mc' := mc) (ms' := ms) (rc' := 0) (rs' := 0) dL_share_5 cvL_86 (by decide) (hsh 0 _ rfl) rfl (Nat.le_of_ble_eq_true rfl) (Nat.le_refl _) (Nat.le_refl _) (jS_mono hc ?_)
  rintro o h ⟨X, J, F', rfl, hC, hq⟩
  rcases hq with ⟨c0, rfl⟩ | ⟨c0, E, rfl, hT⟩
  · refine j_nzl dL_share_8 dL_share_11 dL_share_12 dL_share_15 ?_
    refine j_lastore (i := 184) (len := 1) dL_share_16 (hC.1.1 184 _ rfl) (by decide) (by decide) (jnz_in _) ?_
    refine j_goto (tgt := 32) dL_share_17 (by decide) ?_
    refine j_iconst dL_share_32 ?_
    exact j_iret dL_share_33 rfl (wQ_0 hsh hC c0)
  · rcases pT3 c0 hT with ⟨c1, rfl⟩ | ⟨c1, rfl⟩ | ⟨c1, rfl⟩
    · refine j_catch (i := 4) [] ⟨0, 17, 20, 24⟩ [⟨0, 17, 24, 13⟩, ⟨0, 17, 28, 37⟩] rfl ps_nil (by decide) (by decide) clL_24 cs_xIob dL_share_20 (by decide) ?_
      refine j_iconst dL_share_22 ?_
      exact j_iret dL_share_23 rfl (wQ_c hsh hC c1 c0)
    · refine j_catch (i := 4) [⟨0, 17, 20, 24⟩] ⟨0, 17, 24, 13⟩ [⟨0, 17, 28, 37⟩] rfl (ps_cons (by decide) xs_xIob xs_xIae (by decide) clL_24 ps_nil) (by decide) (by decide) clL_13 cs_xIae dL_share_24 (by decide) ?_
      refine j_iconst dL_share_26 ?_
      exact j_iret dL_share_27 rfl (wQ_c hsh hC c1 c0)
    · refine j_catch (i := 4) [⟨0, 17, 20, 24⟩, ⟨0, 17, 24, 13⟩] ⟨0, 17, 28, 37⟩ [] rfl (ps_cons (by decide) xs_xIob xs_xIse (by decide) clL_24 (ps_cons (by decide) xs_xIae xs_xIse (by decide) clL_13 ps_nil)) (by decide) (by decide) clL_37 cs_xIse dL_share_28 (by decide) ?_
      refine j_iconst dL_share_30 ?_
      exact j_iret dL_share_31 rfl (wQ_c hsh hC c1 c0)
theorem wr_shares {x1 x2 : Int} (hsh : ShOK sh) (hc : jS G 40 mX11_shares (jR (some 0) :: [jI x1, jI x2]) (sh, I, F) mc ms (pQ sh I M' [xIob, xIae, xIse] c r)) : jS G 41 mL_shares [jR (some 0), jI x1, jI x2, jR (some 184)] (sh, I, F) mc ms (wQ sh I M' c (jwr r)) := by
  refine jS_ofT [some (jR (some 0)), some (jI x1), some (jI x2), some (jR (some 184)), none] (by decide +kernel) (by decide) (by simp [jone]) (Nat.le_of_ble_eq_true rfl) rfl (fun hok => ?_)
  refine j_aload_n dL_shares_0 rfl ?_
  refine j_iconst dL_shares_1 ?_
  refine j_aload_n dL_shares_2 rfl ?_
  refine j_iload_n dL_shares_3 rfl ?_
  refine j_iload_n dL_shares_4 rfl ?_
  refine j_callV (n := 2) (As := [jI x1, jI x2]) (S := [jI 0, jR (some 184)]) (mc' := mc) (ms' := ms) (rc' := 0) (rs' := 0) dL_shares_5 cvL_90 (by decide) (hsh 0 _ rfl) rfl (Nat.le_of_ble_eq_true rfl) (Nat.le_refl _) (Nat.le_refl _) (jS_mono hc ?_)
  rintro o h ⟨X, J, F', rfl, hC, hq⟩
  rcases hq with ⟨c0, rfl⟩ | ⟨c0, E, rfl, hT⟩
  · refine j_i2l dL_shares_8 ?_
    refine j_lastore (i := 184) (len := 1) dL_shares_9 (hC.1.1 184 _ rfl) (by decide) (by decide) (jwr_in _) ?_
    refine j_goto (tgt := 25) dL_shares_10 (by decide) ?_
    refine j_iconst dL_shares_25 ?_
    exact j_iret dL_shares_26 rfl (wQ_0 hsh hC c0)
  · rcases pT3 c0 hT with ⟨c1, rfl⟩ | ⟨c1, rfl⟩ | ⟨c1, rfl⟩
    · refine j_catch (i := 4) [] ⟨0, 10, 13, 24⟩ [⟨0, 10, 17, 13⟩, ⟨0, 10, 21, 37⟩] rfl ps_nil (by decide) (by decide) clL_24 cs_xIob dL_shares_13 (by decide) ?_
      refine j_iconst dL_shares_15 ?_
      exact j_iret dL_shares_16 rfl (wQ_c hsh hC c1 c0)
    · refine j_catch (i := 4) [⟨0, 10, 13, 24⟩] ⟨0, 10, 17, 13⟩ [⟨0, 10, 21, 37⟩] rfl (ps_cons (by decide) xs_xIob xs_xIae (by decide) clL_24 ps_nil) (by decide) (by decide) clL_13 cs_xIae dL_shares_17 (by decide) ?_
      refine j_iconst dL_shares_19 ?_
      exact j_iret dL_shares_20 rfl (wQ_c hsh hC c1 c0)
    · refine j_catch (i := 4) [⟨0, 10, 13, 24⟩, ⟨0, 10, 17, 13⟩] ⟨0, 10, 21, 37⟩ [] rfl (ps_cons (by decide) xs_xIob xs_xIse (by decide) clL_24 (ps_cons (by decide) xs_xIae xs_xIse (by decide) clL_13 ps_nil)) (by decide) (by decide) clL_37 cs_xIse dL_shares_21 (by decide) ?_
      refine j_iconst dL_shares_23 ?_
      exact j_iret dL_shares_24 rfl (wQ_c hsh hC c1 c0)
theorem wr_could {x1 : Int} (hsh : ShOK sh) (hc : jS G 40 mX11_could (jR (some 0) :: [jI x1]) (sh, I, F) mc ms (pQ sh I M' [xIob] c r)) : jS G 41 mL_could [jR (some 0), jI x1, jR (some 184)] (sh, I, F) mc ms (wQ sh I M' c (jwr r)) := by
  refine jS_ofT [some (jR (some 0)), some (jI x1), some (jR (some 184)), none] (by decide +kernel) (by decide) (by simp [jone]) (Nat.le_of_ble_eq_true rfl) rfl (fun hok => ?_)
  refine j_aload_n dL_could_0 rfl ?_
  refine j_iconst dL_could_1 ?_
  refine j_aload_n dL_could_2 rfl ?_
  refine j_iload_n dL_could_3 rfl ?_
  refine j_callV (n := 1) (As := [jI x1]) (S := [jI 0, jR (some 184)]) (mc' := mc) (ms' := ms) (rc' := 0) (rs' := 0) dL_could_4 cvL_93 (by decide) (hsh 0 _ rfl) rfl (Nat.le_of_ble_eq_true rfl) (Nat.le_refl _) (Nat.le_refl _) (jS_mono hc ?_)
  rintro o h ⟨X, J, F', rfl, hC, hq⟩
  rcases hq with ⟨c0, rfl⟩ | ⟨c0, E, rfl, hT⟩
  · refine j_i2l dL_could_7 ?_
    refine j_lastore (i := 184) (len := 1) dL_could_8 (hC.1.1 184 _ rfl) (by decide) (by decide) (jwr_in _) ?_
    refine j_goto (tgt := 15) dL_could_9 (by decide) ?_
    refine j_iconst dL_could_15 ?_
    exact j_iret dL_could_16 rfl (wQ_0 hsh hC c0)
  · obtain ⟨c1, rfl⟩ := pT1 c0 hT
    refine j_catch_n (i := 3) [] ⟨0, 9, 12, 24⟩ [] rfl ps_nil (by decide) (by decide) clL_24 cs_xIob dL_could_12 (by decide) ?_
    refine j_iconst dL_could_13 ?_
    exact j_iret dL_could_14 rfl (wQ_c hsh hC c1 c0)
theorem wr_peak {x1 x2 x3 : Int} (hsh : ShOK sh) (hc : jS G 40 mX11_peak (jR (some 0) :: [jI x1, jI x2, jI x3]) (sh, I, F) mc ms (pQ sh I M' [xIob, xIae, xIse] c r)) : jS G 41 mL_peak [jR (some 0), jI x1, jI x2, jI x3, jR (some 184)] (sh, I, F) mc ms (wQ sh I M' c (jwr r)) := by
  refine jS_ofT [some (jR (some 0)), some (jI x1), some (jI x2), some (jI x3), some (jR (some 184)), none] (by decide +kernel) (by decide) (by simp [jone]) (Nat.le_of_ble_eq_true rfl) rfl (fun hok => ?_)
  refine j_aload dL_peak_0 rfl ?_
  refine j_iconst dL_peak_2 ?_
  refine j_aload_n dL_peak_3 rfl ?_
  refine j_iload_n dL_peak_4 rfl ?_
  refine j_iload_n dL_peak_5 rfl ?_
  refine j_iload_n dL_peak_6 rfl ?_
  refine j_callV (n := 3) (As := [jI x1, jI x2, jI x3]) (S := [jI 0, jR (some 184)]) (mc' := mc) (ms' := ms) (rc' := 0) (rs' := 0) dL_peak_7 cvL_96 (by decide) (hsh 0 _ rfl) rfl (Nat.le_of_ble_eq_true rfl) (Nat.le_refl _) (Nat.le_refl _) (jS_mono hc ?_)
  rintro o h ⟨X, J, F', rfl, hC, hq⟩
  rcases hq with ⟨c0, rfl⟩ | ⟨c0, E, rfl, hT⟩
  · refine j_i2l dL_peak_10 ?_
    refine j_lastore (i := 184) (len := 1) dL_peak_11 (hC.1.1 184 _ rfl) (by decide) (by decide) (jwr_in _) ?_
    refine j_goto (tgt := 27) dL_peak_12 (by decide) ?_
    refine j_iconst dL_peak_27 ?_
    exact j_iret dL_peak_28 rfl (wQ_0 hsh hC c0)
  · rcases pT3 c0 hT with ⟨c1, rfl⟩ | ⟨c1, rfl⟩ | ⟨c1, rfl⟩
    · refine j_catch (i := 5) [] ⟨0, 12, 15, 24⟩ [⟨0, 12, 19, 13⟩, ⟨0, 12, 23, 37⟩] rfl ps_nil (by decide) (by decide) clL_24 cs_xIob dL_peak_15 (by decide) ?_
      refine j_iconst dL_peak_17 ?_
      exact j_iret dL_peak_18 rfl (wQ_c hsh hC c1 c0)
    · refine j_catch (i := 5) [⟨0, 12, 15, 24⟩] ⟨0, 12, 19, 13⟩ [⟨0, 12, 23, 37⟩] rfl (ps_cons (by decide) xs_xIob xs_xIae (by decide) clL_24 ps_nil) (by decide) (by decide) clL_13 cs_xIae dL_peak_19 (by decide) ?_
      refine j_iconst dL_peak_21 ?_
      exact j_iret dL_peak_22 rfl (wQ_c hsh hC c1 c0)
    · refine j_catch (i := 5) [⟨0, 12, 15, 24⟩, ⟨0, 12, 19, 13⟩] ⟨0, 12, 23, 37⟩ [] rfl (ps_cons (by decide) xs_xIob xs_xIse (by decide) clL_24 (ps_cons (by decide) xs_xIae xs_xIse (by decide) clL_13 ps_nil)) (by decide) (by decide) clL_37 cs_xIse dL_peak_23 (by decide) ?_
      refine j_iconst dL_peak_25 ?_
      exact j_iret dL_peak_26 rfl (wQ_c hsh hC c1 c0)
theorem wr_needed {x1 : Int} (hsh : ShOK sh) (hc : jS G 40 mX11_needed (jR (some 0) :: [jI x1]) (sh, I, F) mc ms (pQ sh I M' [xIae] c r)) : jS G 41 mL_needed [jR (some 0), jI x1, jR (some 184)] (sh, I, F) mc ms (wQ sh I M' c (jwr r)) := by
  refine jS_ofT [some (jR (some 0)), some (jI x1), some (jR (some 184)), none] (by decide +kernel) (by decide) (by simp [jone]) (Nat.le_of_ble_eq_true rfl) rfl (fun hok => ?_)
  refine j_aload_n dL_needed_0 rfl ?_
  refine j_iconst dL_needed_1 ?_
  refine j_aload_n dL_needed_2 rfl ?_
  refine j_iload_n dL_needed_3 rfl ?_
  refine j_callV (n := 1) (As := [jI x1]) (S := [jI 0, jR (some 184)]) (mc' := mc) (ms' := ms) (rc' := 0) (rs' := 0) dL_needed_4 cvL_99 (by decide) (hsh 0 _ rfl) rfl (Nat.le_of_ble_eq_true rfl) (Nat.le_refl _) (Nat.le_refl _) (jS_mono hc ?_)
  rintro o h ⟨X, J, F', rfl, hC, hq⟩
  rcases hq with ⟨c0, rfl⟩ | ⟨c0, E, rfl, hT⟩
  · refine j_i2l dL_needed_7 ?_
    refine j_lastore (i := 184) (len := 1) dL_needed_8 (hC.1.1 184 _ rfl) (by decide) (by decide) (jwr_in _) ?_
    refine j_goto (tgt := 15) dL_needed_9 (by decide) ?_
    refine j_iconst dL_needed_15 ?_
    exact j_iret dL_needed_16 rfl (wQ_0 hsh hC c0)
  · obtain ⟨c1, rfl⟩ := pT1 c0 hT
    refine j_catch_n (i := 3) [] ⟨0, 9, 12, 13⟩ [] rfl ps_nil (by decide) (by decide) clL_13 cs_xIae dL_needed_12 (by decide) ?_
    refine j_iconst dL_needed_13 ?_
    exact j_iret dL_needed_14 rfl (wQ_c hsh hC c1 c0)
theorem wr_rank {x1 : Int} (hsh : ShOK sh) (hc : jS G 40 mX11_rank (jR (some 0) :: [jI x1]) (sh, I, F) mc ms (pQ sh I M' [xIob, xIse] c r)) : jS G 41 mL_rank [jR (some 0), jI x1, jR (some 184)] (sh, I, F) mc ms (wQ sh I M' c (jwr r)) := by
  refine jS_ofT [some (jR (some 0)), some (jI x1), some (jR (some 184)), none] (by decide +kernel) (by decide) (by simp [jone]) (Nat.le_of_ble_eq_true rfl) rfl (fun hok => ?_)
  refine j_aload_n dL_rank_0 rfl ?_
  refine j_iconst dL_rank_1 ?_
  refine j_aload_n dL_rank_2 rfl ?_
  refine j_iload_n dL_rank_3 rfl ?_
  refine j_callV (n := 1) (As := [jI x1]) (S := [jI 0, jR (some 184)]) (mc' := mc) (ms' := ms) (rc' := 0) (rs' := 0) dL_rank_4 cvL_102 (by decide) (hsh 0 _ rfl) rfl (Nat.le_of_ble_eq_true rfl) (Nat.le_refl _) (Nat.le_refl _) (jS_mono hc ?_)
  rintro o h ⟨X, J, F', rfl, hC, hq⟩
  rcases hq with ⟨c0, rfl⟩ | ⟨c0, E, rfl, hT⟩
  · refine j_i2l dL_rank_7 ?_
    refine j_lastore (i := 184) (len := 1) dL_rank_8 (hC.1.1 184 _ rfl) (by decide) (by decide) (jwr_in _) ?_
    refine j_goto (tgt := 18) dL_rank_9 (by decide) ?_
    refine j_iconst dL_rank_18 ?_
    exact j_iret dL_rank_19 rfl (wQ_0 hsh hC c0)
  · rcases pT2 c0 hT with ⟨c1, rfl⟩ | ⟨c1, rfl⟩
    · refine j_catch_n (i := 3) [] ⟨0, 9, 12, 24⟩ [⟨0, 9, 15, 37⟩] rfl ps_nil (by decide) (by decide) clL_24 cs_xIob dL_rank_12 (by decide) ?_
      refine j_iconst dL_rank_13 ?_
      exact j_iret dL_rank_14 rfl (wQ_c hsh hC c1 c0)
    · refine j_catch_n (i := 3) [⟨0, 9, 12, 24⟩] ⟨0, 9, 15, 37⟩ [] rfl (ps_cons (by decide) xs_xIob xs_xIse (by decide) clL_24 ps_nil) (by decide) (by decide) clL_37 cs_xIse dL_rank_15 (by decide) ?_
      refine j_iconst dL_rank_16 ?_
      exact j_iret dL_rank_17 rfl (wQ_c hsh hC c1 c0)
theorem wr_trial {x1 x2 : Int} (hsh : ShOK sh) (hc : jS G 40 mX11_trial (jR (some 0) :: [jI x1, jI x2]) (sh, I, F) mc ms (pQ sh I M' [xIae] c r)) : jS G 41 mL_trial [jR (some 0), jI x1, jI x2, jR (some 184)] (sh, I, F) mc ms (wQ sh I M' c (jwr r)) := by
  refine jS_ofT [some (jR (some 0)), some (jI x1), some (jI x2), some (jR (some 184)), none] (by decide +kernel) (by decide) (by simp [jone]) (Nat.le_of_ble_eq_true rfl) rfl (fun hok => ?_)
  refine j_aload_n dL_trial_0 rfl ?_
  refine j_iconst dL_trial_1 ?_
  refine j_aload_n dL_trial_2 rfl ?_
  refine j_iload_n dL_trial_3 rfl ?_
  refine j_iload_n dL_trial_4 rfl ?_
  refine j_callV (n := 2) (As := [jI x1, jI x2]) (S := [jI 0, jR (some 184)]) (mc' := mc) (ms' := ms) (rc' := 0) (rs' := 0) dL_trial_5 cvL_105 (by decide) (hsh 0 _ rfl) rfl (Nat.le_of_ble_eq_true rfl) (Nat.le_refl _) (Nat.le_refl _) (jS_mono hc ?_)
  rintro o h ⟨X, J, F', rfl, hC, hq⟩
  rcases hq with ⟨c0, rfl⟩ | ⟨c0, E, rfl, hT⟩
  · refine j_i2l dL_trial_8 ?_
    refine j_lastore (i := 184) (len := 1) dL_trial_9 (hC.1.1 184 _ rfl) (by decide) (by decide) (jwr_in _) ?_
    refine j_goto (tgt := 17) dL_trial_10 (by decide) ?_
    refine j_iconst dL_trial_17 ?_
    exact j_iret dL_trial_18 rfl (wQ_0 hsh hC c0)
  · obtain ⟨c1, rfl⟩ := pT1 c0 hT
    refine j_catch (i := 4) [] ⟨0, 10, 13, 13⟩ [] rfl ps_nil (by decide) (by decide) clL_13 cs_xIae dL_trial_13 (by decide) ?_
    refine j_iconst dL_trial_15 ?_
    exact j_iret dL_trial_16 rfl (wQ_c hsh hC c1 c0)
theorem wr_span {x1 x2 : Int} (hsh : ShOK sh) (hc : jS G 40 mX11_span (jR (some 0) :: [jI x1, jI x2]) (sh, I, F) mc ms (pQ sh I M' [xIae] c r)) : jS G 41 mL_span [jR (some 0), jI x1, jI x2, jR (some 184)] (sh, I, F) mc ms (wQ sh I M' c (jwr r)) := by
  refine jS_ofT [some (jR (some 0)), some (jI x1), some (jI x2), some (jR (some 184)), none] (by decide +kernel) (by decide) (by simp [jone]) (Nat.le_of_ble_eq_true rfl) rfl (fun hok => ?_)
  refine j_aload_n dL_span_0 rfl ?_
  refine j_iconst dL_span_1 ?_
  refine j_aload_n dL_span_2 rfl ?_
  refine j_iload_n dL_span_3 rfl ?_
  refine j_iload_n dL_span_4 rfl ?_
  refine j_callV (n := 2) (As := [jI x1, jI x2]) (S := [jI 0, jR (some 184)]) (mc' := mc) (ms' := ms) (rc' := 0) (rs' := 0) dL_span_5 cvL_108 (by decide) (hsh 0 _ rfl) rfl (Nat.le_of_ble_eq_true rfl) (Nat.le_refl _) (Nat.le_refl _) (jS_mono hc ?_)
  rintro o h ⟨X, J, F', rfl, hC, hq⟩
  rcases hq with ⟨c0, rfl⟩ | ⟨c0, E, rfl, hT⟩
  · refine j_i2l dL_span_8 ?_
    refine j_lastore (i := 184) (len := 1) dL_span_9 (hC.1.1 184 _ rfl) (by decide) (by decide) (jwr_in _) ?_
    refine j_goto (tgt := 17) dL_span_10 (by decide) ?_
    refine j_iconst dL_span_17 ?_
    exact j_iret dL_span_18 rfl (wQ_0 hsh hC c0)
  · obtain ⟨c1, rfl⟩ := pT1 c0 hT
    refine j_catch (i := 4) [] ⟨0, 10, 13, 13⟩ [] rfl ps_nil (by decide) (by decide) clL_13 cs_xIae dL_span_13 (by decide) ?_
    refine j_iconst dL_span_15 ?_
    exact j_iret dL_span_16 rfl (wQ_c hsh hC c1 c0)
theorem wr_led {x1 x2 : Int} (hsh : ShOK sh) (hc : jS G 40 mX11_led (jR (some 0) :: [jI x1, jI x2]) (sh, I, F) mc ms (pQ sh I M' [xIob] c r)) : jS G 41 mL_led [jR (some 0), jI x1, jI x2, jR (some 184)] (sh, I, F) mc ms (wQ sh I M' c (jwr r)) := by
  refine jS_ofT [some (jR (some 0)), some (jI x1), some (jI x2), some (jR (some 184)), none] (by decide +kernel) (by decide) (by simp [jone]) (Nat.le_of_ble_eq_true rfl) rfl (fun hok => ?_)
  refine j_aload_n dL_led_0 rfl ?_
  refine j_iconst dL_led_1 ?_
  refine j_aload_n dL_led_2 rfl ?_
  refine j_iload_n dL_led_3 rfl ?_
  refine j_iload_n dL_led_4 rfl ?_
  refine j_callV (n := 2) (As := [jI x1, jI x2]) (S := [jI 0, jR (some 184)]) (mc' := mc) (ms' := ms) (rc' := 0) (rs' := 0) dL_led_5 cvL_111 (by decide) (hsh 0 _ rfl) rfl (Nat.le_of_ble_eq_true rfl) (Nat.le_refl _) (Nat.le_refl _) (jS_mono hc ?_)
  rintro o h ⟨X, J, F', rfl, hC, hq⟩
  rcases hq with ⟨c0, rfl⟩ | ⟨c0, E, rfl, hT⟩
  · refine j_i2l dL_led_8 ?_
    refine j_lastore (i := 184) (len := 1) dL_led_9 (hC.1.1 184 _ rfl) (by decide) (by decide) (jwr_in _) ?_
    refine j_goto (tgt := 17) dL_led_10 (by decide) ?_
    refine j_iconst dL_led_17 ?_
    exact j_iret dL_led_18 rfl (wQ_0 hsh hC c0)
  · obtain ⟨c1, rfl⟩ := pT1 c0 hT
    refine j_catch (i := 4) [] ⟨0, 10, 13, 24⟩ [] rfl ps_nil (by decide) (by decide) clL_24 cs_xIob dL_led_13 (by decide) ?_
    refine j_iconst dL_led_15 ?_
    exact j_iret dL_led_16 rfl (wQ_c hsh hC c1 c0)
theorem wr_log {x1 x2 : Int} (hsh : ShOK sh) (hc : jS G 40 mX11_log (jR (some 0) :: [jI x1, jI x2]) (sh, I, F) mc ms (pQ sh I M' [xNse] c r)) : jS G 41 mL_log [jR (some 0), jI x1, jI x2, jR (some 184)] (sh, I, F) mc ms (wQ sh I M' c (jwr r)) := by
  refine jS_ofT [some (jR (some 0)), some (jI x1), some (jI x2), some (jR (some 184)), none] (by decide +kernel) (by decide) (by simp [jone]) (Nat.le_of_ble_eq_true rfl) rfl (fun hok => ?_)
  refine j_aload_n dL_log_0 rfl ?_
  refine j_iconst dL_log_1 ?_
  refine j_aload_n dL_log_2 rfl ?_
  refine j_iload_n dL_log_3 rfl ?_
  refine j_iload_n dL_log_4 rfl ?_
  refine j_callV (n := 2) (As := [jI x1, jI x2]) (S := [jI 0, jR (some 184)]) (mc' := mc) (ms' := ms) (rc' := 0) (rs' := 0) dL_log_5 cvL_114 (by decide) (hsh 0 _ rfl) rfl (Nat.le_of_ble_eq_true rfl) (Nat.le_refl _) (Nat.le_refl _) (jS_mono hc ?_)
  rintro o h ⟨X, J, F', rfl, hC, hq⟩
  rcases hq with ⟨c0, rfl⟩ | ⟨c0, E, rfl, hT⟩
  · refine j_i2l dL_log_8 ?_
    refine j_lastore (i := 184) (len := 1) dL_log_9 (hC.1.1 184 _ rfl) (by decide) (by decide) (jwr_in _) ?_
    refine j_goto (tgt := 17) dL_log_10 (by decide) ?_
    refine j_iconst dL_log_17 ?_
    exact j_iret dL_log_18 rfl (wQ_0 hsh hC c0)
  · obtain ⟨c1, rfl⟩ := pT1 c0 hT
    refine j_catch (i := 4) [] ⟨0, 10, 13, 26⟩ [] rfl ps_nil (by decide) (by decide) clL_26 cs_xNse dL_log_13 (by decide) ?_
    refine j_iconst dL_log_15 ?_
    exact j_iret dL_log_16 rfl (wQ_c hsh hC c1 c0)
end
