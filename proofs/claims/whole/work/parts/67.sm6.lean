/-! one reading: the signs, the brackets, the whole -/
theorem sm_Q.eI {b : Nat} {P : pg_P} {T : dm_L} {NL : List md_N} {iv : Nat} {t : List dm_L} {io : Nat → Bool} {lv : Nat} (h : sm_Q b P (T :: (sm_opt NL iv ++ t))) (hio : io lv = decide (0 < iv)) (hP : P.length + min iv 1 ≤ 81) (hb : t.length + 2 < b) : sm_Q b (rd_eI io lv P) ((if iv = 0 then T else dm_and (sm_G NL (iv - 1)) T) :: t) ∧ (rd_eI io lv P).length = P.length + min iv 1 := by
  by_cases e : iv = 0
  · have ei : rd_eI io lv P = P := if_neg (by rw [hio, decide_eq_false (by omega)]; decide)
    rw [ei, if_pos e]
    rw [show sm_opt NL iv = [] from if_pos e] at h
    exact ⟨h, by omega⟩
  · have ei : rd_eI io lv P = pg_add P (4, 0, 1) := if_pos (by rw [hio, decide_eq_true (by omega)])
    rw [ei, if_neg e]
    rw [show sm_opt NL iv = [sm_G NL (iv - 1)] from if_neg e] at h
    exact ⟨sm_Q.and h (by omega) hb, by rw [pg_add_len (by omega)]; omega⟩

theorem sm_Q.eU {b : Nat} {P : pg_P} {T : dm_L} {NL : List md_N} {iv uv : Nat} {t : List dm_L} {uo io : Nat → Bool} {lv : Nat} (h : sm_Q b P (T :: (sm_opt NL iv ++ (sm_opt NL uv ++ t)))) (hio : io lv = decide (0 < iv)) (huo : uo lv = decide (0 < uv)) (hP : P.length + min iv 1 + min uv 1 ≤ 81) (hb : t.length + 3 < b) : sm_Q b (rd_eU uo io lv P) ((if uv = 0 then (if iv = 0 then T else dm_and (sm_G NL (iv - 1)) T) else dm_or (sm_G NL (uv - 1)) (if iv = 0 then T else dm_and (sm_G NL (iv - 1)) T)) :: t) ∧ (rd_eU uo io lv P).length = P.length + min iv 1 + min uv 1 := by
  have hl := sm_opt_len NL uv
  obtain ⟨h1, h2⟩ := h.eI hio (by omega) (by rw [List.length_append]; omega)
  by_cases e : uv = 0
  · have ei : rd_eU uo io lv P = rd_eI io lv P := if_neg (by rw [huo, decide_eq_false (by omega)]; decide)
    rw [ei, if_pos e]
    rw [show sm_opt NL uv = [] from if_pos e] at h1
    exact ⟨h1, by omega⟩
  · have ei : rd_eU uo io lv P = pg_add (rd_eI io lv P) (3, 0, 1) := if_pos (by rw [huo, decide_eq_true (by omega)])
    rw [ei, if_neg e]
    rw [show sm_opt NL uv = [sm_G NL (uv - 1)] from if_neg e] at h1
    exact ⟨sm_Q.or h1 (by omega) (by omega), by rw [pg_add_len (by omega)]; omega⟩

theorem sm_ci_of {src : Nat → Nat} {len a : Nat} {lv : Nat} {noc : Nat → Nat} {uo io : Nat → Bool} {P : pg_P} {NL : List md_N} {un ii rw_ no pc_ : Nat → Nat} (h : sm_bd src len a lv noc uo io P NL un ii rw_ no pc_) (ha : a ≤ 40) (hn : noc lv = 0) : (no lv = 0 ∨ 0 < pc_ lv) ∧ sm_ext NL (md_ci NL (un lv) (ii lv) (rw_ lv) (no lv) (pc_ lv)).1 ∧ (md_ci NL (un lv) (ii lv) (rw_ lv) (no lv) (pc_ lv)).2 = (md_ci NL (un lv) (ii lv) (rw_ lv) (no lv) (pc_ lv)).1.length ∧ 0 < (md_ci NL (un lv) (ii lv) (rw_ lv) (no lv) (pc_ lv)).2 ∧ sm_G (md_ci NL (un lv) (ii lv) (rw_ lv) (no lv) (pc_ lv)).1 ((md_ci NL (un lv) (ii lv) (rw_ lv) (no lv) (pc_ lv)).2 - 1) = sm_ti NL (un lv) (ii lv) (rw_ lv) (no lv) (pc_ lv) ∧ sm_Q (sm_b a lv) (rd_eU uo io lv P) (sm_ti NL (un lv) (ii lv) (rw_ lv) (no lv) (pc_ lv) :: sm_low NL un ii rw_ lv) ∧ (rd_eU uo io lv P).length = P.length + min (ii lv) 1 + min (un lv) 1 := by
  obtain ⟨k1, k2, k3, k4, k5, k6, k7⟩ := h
  have hc : no lv = 0 ∨ 0 < pc_ lv := by
    by_cases e : pc_ lv = 0
    · rw [if_pos e] at k4
      omega
    · omega
  obtain ⟨a1, a2, a3, a4, a5, a6⟩ := k1
  have b := a3 lv (Nat.le_refl _)
  obtain ⟨c1, c2, c3, c4, c5, c6, c7⟩ := md_ci_all (nv := no lv) b.1 b.2.1 b.2.2 a4 (fun z => a5 z (by omega)) (by omega) a6
  have e3 := sm_X_3 NL un ii rw_ lv
  have hr := sm_b_in (a := a) (lv := lv) (x := sm_X NL un ii rw_ lv) k2.2.2 e3.2
  have lg := sm_low_ge NL un ii rw_ lv
  have x1 : sm_X NL un ii rw_ lv = min (ii lv) 1 + min (un lv) 1 + (sm_low NL un ii rw_ lv).length := rfl
  have fl := k2.1
  have g := k2.2.1 lv (Nat.le_refl _)
  obtain ⟨Q1, Q2⟩ := sm_Q.eU (t := sm_low NL un ii rw_ lv) k5 g.2 g.1 (by omega) (by omega)
  exact ⟨hc, c1, c4, c5, c7, Q1, Q2⟩

theorem sm_bd_un {src : Nat → Nat} {len a : Nat} {lv : Nat} {noc : Nat → Nat} {uo io : Nat → Bool} {P : pg_P} {NL : List md_N} {un ii rw_ no pc_ : Nat → Nat} (h : sm_bd src len a lv noc uo io P NL un ii rw_ no pc_) (ha : a < 40) (hn : noc lv = 0) : sm_bd src len (a + 1) lv noc (va_up uo lv true) (va_up io lv false) (pg_add (rd_eU uo io lv P) (0, 0, 1)) (md_ci NL (un lv) (ii lv) (rw_ lv) (no lv) (pc_ lv)).1 (va_up un lv (md_ci NL (un lv) (ii lv) (rw_ lv) (no lv) (pc_ lv)).2) (va_up ii lv 0) (va_up rw_ lv 0) (va_up no lv (if pc_ lv = 0 then no lv else 0)) (va_up pc_ lv 0) := by
  obtain ⟨hc, c1, c4, c5, c7, Q1, Q2⟩ := sm_ci_of h (by omega) hn
  obtain ⟨k1, k2, k3, k4, k5, k6, k7⟩ := h
  have b3 := k1.2.2.1
  have e3 := sm_X_3 NL un ii rw_ lv
  have hr := sm_b_in (a := a) (lv := lv) (x := sm_X NL un ii rw_ lv) k2.2.2 e3.2
  have lg := sm_low_ge NL un ii rw_ lv
  have x1 : sm_X NL un ii rw_ lv = min (ii lv) 1 + min (un lv) 1 + (sm_low NL un ii rw_ lv).length := rfl
  have fl := k2.1
  have fx := k2.2.2
  have hlow : sm_low (md_ci NL (un lv) (ii lv) (rw_ lv) (no lv) (pc_ lv)).1 (va_up un lv (md_ci NL (un lv) (ii lv) (rw_ lv) (no lv) (pc_ lv)).2) (va_up ii lv 0) (va_up rw_ lv 0) lv = sm_low NL un ii rw_ lv := c1.low (fun j hj => by have := b3 j (by omega); omega) (fun j hj => ⟨va_up_ne' (by omega), va_up_ne' (by omega), va_up_ne' (by omega)⟩)
  have x2 : sm_X (md_ci NL (un lv) (ii lv) (rw_ lv) (no lv) (pc_ lv)).1 (va_up un lv (md_ci NL (un lv) (ii lv) (rw_ lv) (no lv) (pc_ lv)).2) (va_up ii lv 0) (va_up rw_ lv 0) lv = 1 + (sm_low NL un ii rw_ lv).length := by
    unfold sm_X
    rw [hlow, va_up_eq', va_up_eq']
    omega
  have hbel : sm_bel (md_ci NL (un lv) (ii lv) (rw_ lv) (no lv) (pc_ lv)).1 (va_up un lv (md_ci NL (un lv) (ii lv) (rw_ lv) (no lv) (pc_ lv)).2) (va_up ii lv 0) (va_up rw_ lv 0) lv = sm_ti NL (un lv) (ii lv) (rw_ lv) (no lv) (pc_ lv) :: sm_low NL un ii rw_ lv := by
    unfold sm_bel
    rw [hlow, va_up_eq', va_up_eq', show sm_opt (md_ci NL (un lv) (ii lv) (rw_ lv) (no lv) (pc_ lv)).1 0 = [] from rfl, show sm_opt (md_ci NL (un lv) (ii lv) (rw_ lv) (no lv) (pc_ lv)).1 (md_ci NL (un lv) (ii lv) (rw_ lv) (no lv) (pc_ lv)).2 = [sm_G (md_ci NL (un lv) (ii lv) (rw_ lv) (no lv) (pc_ lv)).1 ((md_ci NL (un lv) (ii lv) (rw_ lv) (no lv) (pc_ lv)).2 - 1)] from if_neg (by omega), c7]
    rfl
  refine ⟨md_w_ci k1 (by omega) hc, ⟨by omega, fun j hj => ?_, by rw [x2]; omega⟩, fun j hj => by rw [va_up_ne' (by omega)]; exact k3 j hj, by rw [va_up_eq', va_up_eq', if_pos rfl]; exact k4, ?_, ?_, fun z => by rw [va_up_eq'] at z; omega⟩
  · by_cases e : j = lv
    · rw [e, va_up_eq', va_up_eq', va_up_eq', va_up_eq', decide_eq_true (by omega)]
      exact ⟨rfl, rfl⟩
    · rw [va_up_ne' e, va_up_ne' e, va_up_ne' e, va_up_ne' e]
      exact k2.2.1 j hj
  · rw [hbel, va_up_eq', va_up_eq', va_up_eq']
    exact (Q1.mono (sm_b_le (b := a + 1) (lw := lv) (by omega))).eps (by omega) (by rw [List.length_cons]; have := sm_b_le (a := a) (lv := lv) (b := a + 1) (lw := lv) (by omega); omega)
  · rw [x2, pg_add_len (by omega), Q2]
    omega

theorem sm_bd_in {src : Nat → Nat} {len a : Nat} {lv : Nat} {noc : Nat → Nat} {uo io : Nat → Bool} {P : pg_P} {NL : List md_N} {un ii rw_ no pc_ : Nat → Nat} (h : sm_bd src len a lv noc uo io P NL un ii rw_ no pc_) (ha : a < 40) (hn : noc lv = 0) : (no lv = 0 ∨ 0 < pc_ lv) ∧ sm_bd src len (a + 1) lv noc uo (va_up io lv true) (pg_add (rd_eI io lv P) (0, 0, 1)) (md_cr NL (ii lv) (rw_ lv) (no lv) (pc_ lv)).1 un (va_up ii lv (md_cr NL (ii lv) (rw_ lv) (no lv) (pc_ lv)).2) (va_up rw_ lv 0) (va_up no lv (if pc_ lv = 0 then no lv else 0)) (va_up pc_ lv 0) := by
  obtain ⟨k1, k2, k3, k4, k5, k6, k7⟩ := h
  have hc : no lv = 0 ∨ 0 < pc_ lv := by
    by_cases e : pc_ lv = 0
    · rw [if_pos e] at k4
      omega
    · omega
  refine ⟨hc, ?_⟩
  have b3 := k1.2.2.1
  have b := b3 lv (Nat.le_refl _)
  have a2 := k1.2.1
  obtain ⟨c1, c2, c3, c4, c5, c6, c7⟩ := md_cr_all (nv := no lv) b.2.1 b.2.2 k1.2.2.2.1 (fun z => k1.2.2.2.2.1 z (by omega)) (by omega) k1.2.2.2.2.2
  have e3 := sm_X_3 NL un ii rw_ lv
  have hr := sm_b_in (a := a) (lv := lv) (x := sm_X NL un ii rw_ lv) k2.2.2 e3.2
  have lg := sm_low_ge NL un ii rw_ lv
  have x1 : sm_X NL un ii rw_ lv = min (ii lv) 1 + min (un lv) 1 + (sm_low NL un ii rw_ lv).length := rfl
  have fl := k2.1
  have fx := k2.2.2
  have g := k2.2.1 lv (Nat.le_refl _)
  have ol := sm_opt_len NL (un lv)
  obtain ⟨Q1, Q2⟩ := sm_Q.eI (t := sm_opt NL (un lv) ++ sm_low NL un ii rw_ lv) k5 g.2 (by omega) (by rw [List.length_append]; omega)
  have hlow : sm_low (md_cr NL (ii lv) (rw_ lv) (no lv) (pc_ lv)).1 un (va_up ii lv (md_cr NL (ii lv) (rw_ lv) (no lv) (pc_ lv)).2) (va_up rw_ lv 0) lv = sm_low NL un ii rw_ lv := c1.low (fun j hj => by have := b3 j (by omega); omega) (fun j hj => ⟨rfl, va_up_ne' (by omega), va_up_ne' (by omega)⟩)
  have x2 : sm_X (md_cr NL (ii lv) (rw_ lv) (no lv) (pc_ lv)).1 un (va_up ii lv (md_cr NL (ii lv) (rw_ lv) (no lv) (pc_ lv)).2) (va_up rw_ lv 0) lv = 1 + min (un lv) 1 + (sm_low NL un ii rw_ lv).length := by
    unfold sm_X
    rw [hlow, va_up_eq']
    omega
  have hbel : sm_bel (md_cr NL (ii lv) (rw_ lv) (no lv) (pc_ lv)).1 un (va_up ii lv (md_cr NL (ii lv) (rw_ lv) (no lv) (pc_ lv)).2) (va_up rw_ lv 0) lv = sm_tr NL (ii lv) (rw_ lv) (no lv) (pc_ lv) :: (sm_opt NL (un lv) ++ sm_low NL un ii rw_ lv) := by
    unfold sm_bel
    rw [hlow, va_up_eq', show sm_opt (md_cr NL (ii lv) (rw_ lv) (no lv) (pc_ lv)).1 (md_cr NL (ii lv) (rw_ lv) (no lv) (pc_ lv)).2 = [sm_G (md_cr NL (ii lv) (rw_ lv) (no lv) (pc_ lv)).1 ((md_cr NL (ii lv) (rw_ lv) (no lv) (pc_ lv)).2 - 1)] from if_neg (by omega), c7, c1.opt (by omega)]
    rfl
  refine ⟨md_w_cr k1 (by omega) hc, ⟨by omega, fun j hj => ?_, by rw [x2]; omega⟩, fun j hj => by rw [va_up_ne' (by omega)]; exact k3 j hj, by rw [va_up_eq', va_up_eq', if_pos rfl]; exact k4, ?_, ?_, fun z => by rw [va_up_eq'] at z; omega⟩
  · by_cases e : j = lv
    · rw [e, va_up_eq', va_up_eq', decide_eq_true (show 0 < (md_cr NL (ii lv) (rw_ lv) (no lv) (pc_ lv)).2 by omega)]
      exact ⟨g.1, rfl⟩
    · rw [va_up_ne' e, va_up_ne' e]
      exact k2.2.1 j hj
  · rw [hbel, va_up_eq', va_up_eq', va_up_eq']
    exact (Q1.mono (sm_b_le (b := a + 1) (lw := lv) (by omega))).eps (by omega) (by rw [List.length_cons, List.length_append]; have := sm_b_le (a := a) (lv := lv) (b := a + 1) (lw := lv) (by omega); omega)
  · rw [x2, pg_add_len (by omega), Q2]
    omega

theorem sm_bd_ti {src : Nat → Nat} {len a : Nat} {lv : Nat} {noc : Nat → Nat} {uo io : Nat → Bool} {P : pg_P} {NL : List md_N} {un ii rw_ no pc_ : Nat → Nat} (h : sm_bd src len a lv noc uo io P NL un ii rw_ no pc_) (ha : a < 40) : sm_bd src len (a + 1) lv (va_up noc lv (noc lv + 1)) uo io P (md_cp NL (rw_ lv) (no lv) (pc_ lv)).1 un ii (va_up rw_ lv (md_cp NL (rw_ lv) (no lv) (pc_ lv)).2) (va_up no lv ((if pc_ lv = 0 then no lv else 0) + 1)) (va_up pc_ lv 0) := by
  obtain ⟨c1, c4, c6⟩ := sm_cp h (by omega)
  obtain ⟨k1, k2, k3, k4, k5, k6, k7⟩ := h
  have b3 := k1.2.2.1
  obtain ⟨q1, q2⟩ := sm_bel_ext c1 (lv := lv) (un := un) (ii := ii) (rw_ := rw_) (un' := un) (ii' := ii) (rw' := va_up rw_ lv (md_cp NL (rw_ lv) (no lv) (pc_ lv)).2) (fun j hj => by have := b3 j hj; omega) (fun j hj => ⟨rfl, rfl, fun q => va_up_ne' (by omega)⟩)
  have elo : sm_lo (va_up noc lv (noc lv + 1)) lv = sm_lo noc lv := sm_lo_congr (fun j hj => va_up_ne' (by omega))
  refine ⟨md_w_ti k1 (by omega), ⟨by have := k2.1; omega, k2.2.1, by rw [q2]; have := k2.2.2; omega⟩, fun j hj => by rw [va_up_ne' (by omega), va_up_ne' (by omega)]; exact k3 j hj, by rw [va_up_eq', va_up_eq', va_up_eq', if_pos rfl, k4], ?_, ?_, fun z => by rw [va_up_eq'] at z; omega⟩
  · rw [q1, va_up_eq', va_up_eq', va_up_eq', show sm_tp (md_cp NL (rw_ lv) (no lv) (pc_ lv)).1 (md_cp NL (rw_ lv) (no lv) (pc_ lv)).2 ((if pc_ lv = 0 then no lv else 0) + 1) 0 = sm_row (md_cp NL (rw_ lv) (no lv) (pc_ lv)).1 (md_cp NL (rw_ lv) (no lv) (pc_ lv)).2 from rfl, c6]
    exact k5.mono (sm_b_le (by omega))
  · rw [q2, elo, va_up_eq']
    omega

theorem sm_bd_op {src : Nat → Nat} {len a : Nat} {lv : Nat} {noc : Nat → Nat} {uo io : Nat → Bool} {P : pg_P} {NL : List md_N} {un ii rw_ no pc_ : Nat → Nat} (h : sm_bd src len a lv noc uo io P NL un ii rw_ no pc_) (ha : a < 40) : sm_bd src len (a + 1) (lv + 1) (va_up noc (lv + 1) 0) (va_up uo (lv + 1) false) (va_up io (lv + 1) false) (pg_add P (0, 0, 1)) (md_cp NL (rw_ lv) (no lv) (pc_ lv)).1 (va_up un (lv + 1) 0) (va_up ii (lv + 1) 0) (va_up (va_up rw_ lv (md_cp NL (rw_ lv) (no lv) (pc_ lv)).2) (lv + 1) 0) (va_up (va_up no lv (if pc_ lv = 0 then no lv else 0)) (lv + 1) 0) (va_up (va_up pc_ lv 0) (lv + 1) 0) := by
  obtain ⟨c1, c4, c6⟩ := sm_cp h (by omega)
  obtain ⟨k1, k2, k3, k4, k5, k6, k7⟩ := h
  have b3 := k1.2.2.1
  have ne : lv ≠ lv + 1 := by omega
  obtain ⟨q1, q2⟩ := sm_bel_ext c1 (lv := lv) (un := un) (ii := ii) (rw_ := rw_) (un' := va_up un (lv + 1) 0) (ii' := va_up ii (lv + 1) 0) (rw' := va_up (va_up rw_ lv (md_cp NL (rw_ lv) (no lv) (pc_ lv)).2) (lv + 1) 0) (fun j hj => by have := b3 j hj; omega) (fun j hj => ⟨va_up_ne' (by omega), va_up_ne' (by omega), fun q => by rw [va_up_ne' (by omega), va_up_ne' (by omega)]⟩)
  have e3 := sm_X_3 NL un ii rw_ lv
  have hr := sm_b_in (a := a) (lv := lv) (x := sm_X NL un ii rw_ lv) k2.2.2 e3.2
  have hl := sm_bel_len NL un ii rw_ lv
  have fl := k2.1
  have fx := k2.2.2
  have elo : sm_lo (va_up noc (lv + 1) 0) (lv + 1) = sm_lo noc lv + noc lv := by
    show sm_lo (va_up noc (lv + 1) 0) lv + va_up noc (lv + 1) 0 lv = _
    rw [sm_lo_congr (g := noc) (fun j hj => va_up_ne' (by omega)), va_up_ne' ne]
  have hlow : sm_low (md_cp NL (rw_ lv) (no lv) (pc_ lv)).1 (va_up un (lv + 1) 0) (va_up ii (lv + 1) 0) (va_up (va_up rw_ lv (md_cp NL (rw_ lv) (no lv) (pc_ lv)).2) (lv + 1) 0) (lv + 1) = sm_tp NL (rw_ lv) (no lv) (pc_ lv) :: sm_bel NL un ii rw_ lv := by
    show sm_row (md_cp NL (rw_ lv) (no lv) (pc_ lv)).1 (va_up (va_up rw_ lv (md_cp NL (rw_ lv) (no lv) (pc_ lv)).2) (lv + 1) 0 lv) :: sm_bel (md_cp NL (rw_ lv) (no lv) (pc_ lv)).1 (va_up un (lv + 1) 0) (va_up ii (lv + 1) 0) (va_up (va_up rw_ lv (md_cp NL (rw_ lv) (no lv) (pc_ lv)).2) (lv + 1) 0) lv = _
    rw [q1, va_up_ne' ne, va_up_eq', c6]
  have hbel : sm_bel (md_cp NL (rw_ lv) (no lv) (pc_ lv)).1 (va_up un (lv + 1) 0) (va_up ii (lv + 1) 0) (va_up (va_up rw_ lv (md_cp NL (rw_ lv) (no lv) (pc_ lv)).2) (lv + 1) 0) (lv + 1) = sm_tp NL (rw_ lv) (no lv) (pc_ lv) :: sm_bel NL un ii rw_ lv := by
    unfold sm_bel
    rw [hlow, va_up_eq', va_up_eq']
    rfl
  have x2 : sm_X (md_cp NL (rw_ lv) (no lv) (pc_ lv)).1 (va_up un (lv + 1) 0) (va_up ii (lv + 1) 0) (va_up (va_up rw_ lv (md_cp NL (rw_ lv) (no lv) (pc_ lv)).2) (lv + 1) 0) (lv + 1) = 1 + sm_X NL un ii rw_ lv := by
    rw [← sm_bel_len, hbel, List.length_cons, hl]
    omega
  refine ⟨md_w_op k1 (by omega), ⟨by omega, fun j hj => ?_, by rw [x2]; omega⟩, fun j hj => ?_, by rw [va_up_eq', va_up_eq', va_up_eq', if_pos rfl], ?_, ?_, fun z => by rw [va_up_eq'] at z; omega⟩
  · by_cases e : j = lv + 1
    · rw [e, va_up_eq', va_up_eq', va_up_eq', va_up_eq']
      exact ⟨rfl, rfl⟩
    · rw [va_up_ne' e, va_up_ne' e, va_up_ne' e, va_up_ne' e]
      exact k2.2.1 j (by omega)
  · rw [va_up_ne' (by omega), va_up_ne' (by omega)]
    by_cases e : j = lv
    · rw [e, va_up_eq']
      exact k4
    · rw [va_up_ne' e]
      exact k3 j (by omega)
  · rw [hbel, va_up_eq', va_up_eq', va_up_eq']
    exact (k5.mono (sm_b_le (b := a + 1) (lw := lv + 1) (by omega))).eps (by omega) (by rw [List.length_cons]; have := sm_b_le (a := a) (lv := lv) (b := a + 1) (lw := lv + 1) (by omega); omega)
  · rw [x2, elo, va_up_eq', pg_add_len (by omega)]
    omega

theorem sm_pi_cl {src : Nat → Nat} {len a : Nat} {d : Nat} {noc : Nat → Nat} {uo io : Nat → Bool} {P : pg_P} {NL : List md_N} {un ii rw_ no pc_ : Nat → Nat} (h : sm_bd src len a (d + 1) noc uo io P NL un ii rw_ no pc_) (ha : a < 40) (hn : noc (d + 1) = 0) : sm_pi 0 (a + 1) d noc uo io (rd_eU uo io (d + 1) P) (md_ci NL (un (d + 1)) (ii (d + 1)) (rw_ (d + 1)) (no (d + 1)) (pc_ (d + 1))).1 (va_up un (d + 1) (md_ci NL (un (d + 1)) (ii (d + 1)) (rw_ (d + 1)) (no (d + 1)) (pc_ (d + 1))).2) (va_up ii (d + 1) 0) (va_up rw_ (d + 1) 0) (va_up no (d + 1) (if pc_ (d + 1) = 0 then no (d + 1) else 0)) (va_up (va_up pc_ (d + 1) 0) d (md_ci NL (un (d + 1)) (ii (d + 1)) (rw_ (d + 1)) (no (d + 1)) (pc_ (d + 1))).2) := by
  obtain ⟨hc, c1, c4, c5, c7, Q1, Q2⟩ := sm_ci_of h (by omega) hn
  obtain ⟨k1, k2, k3, k4, k5, k6, k7⟩ := h
  have b3 := k1.2.2.1
  have ne : d ≠ d + 1 := by omega
  have lg := sm_low_ge NL un ii rw_ (d + 1)
  have x1 : sm_X NL un ii rw_ (d + 1) = min (ii (d + 1)) 1 + min (un (d + 1)) 1 + (sm_low NL un ii rw_ (d + 1)).length := rfl
  have x0 : (sm_low NL un ii rw_ (d + 1)).length = 1 + sm_X NL un ii rw_ d := by
    rw [sm_low_s]
    unfold sm_X
    omega
  have elo : sm_lo noc (d + 1) = sm_lo noc d + noc d := rfl
  have fl := k2.1
  have fx := k2.2.2
  obtain ⟨q1, q2⟩ := sm_bel_ext c1 (lv := d) (un := un) (ii := ii) (rw_ := rw_) (un' := va_up un (d + 1) (md_ci NL (un (d + 1)) (ii (d + 1)) (rw_ (d + 1)) (no (d + 1)) (pc_ (d + 1))).2) (ii' := va_up ii (d + 1) 0) (rw' := va_up rw_ (d + 1) 0) (fun j hj => by have := b3 j (by omega); omega) (fun j hj => ⟨va_up_ne' (by omega), va_up_ne' (by omega), fun q => va_up_ne' (by omega)⟩)
  refine ⟨md_w_cl k1 (by omega) hc, ⟨by omega, fun j hj => ?_, by rw [q2]; omega⟩, fun j hj => by rw [va_up_ne' (by omega)]; exact k3 j (by omega), by rw [va_up_eq']; exact c5, ?_, ?_⟩
  · rw [va_up_ne' (by omega), va_up_ne' (by omega)]
    exact k2.2.1 j (by omega)
  · rw [q1, va_up_eq', c7, va_up_ne' ne, c1.row (by have := (b3 d (by omega)).2.2; omega)]
    exact Q1.mono (sm_b_le (by omega))
  · rw [q2, Q2]
    omega

theorem sm_on {src : Nat → Nat} {len a : Nat} {lv : Nat} {noc : Nat → Nat} {uo io : Nat → Bool} {P : pg_P} {NL : List md_N} {un ii rw_ no pc_ : Nat → Nat} {lo_ : Int32} {im : Nat} {ex ds : Bool} (hlen : len ≤ 40) (hs : ∀ j, j < len → 32 ≤ src j ∧ src j < 127) (h : sm_bd src len a lv noc uo io P NL un ii rw_ no pc_) (ha : a < len) : ((rd_on src len a lv noc uo io P).1 = false ∧ (rd_on src len a lv noc uo io P).2.1 ≤ len ∧ sm_stop src len a (NL, lv, un, ii, rw_, no, pc_, 0, lo_, im, ex, ds) (rd_on src len a lv noc uo io P).2.1) ∨ ∃ b lv' noc' uo' io' P' NL' un' ii' rw' no' pc' lo' im' ex' ds', rd_on src len a lv noc uo io P = (true, (b, lv', noc', uo', io', P')) ∧ a < b ∧ b ≤ len ∧ sm_run src len a (NL, lv, un, ii, rw_, no, pc_, 0, lo_, im, ex, ds) b (NL', lv', un', ii', rw', no', pc', 0, lo', im', ex', ds') ∧ sm_bd src len b lv' noc' uo' io' P' NL' un' ii' rw' no' pc' := by
  have hq := hs a ha
  have hk4 : noc lv = (if pc_ lv = 0 then no lv else 0) := h.2.2.2.1
  have hcn : noc lv = 0 ↔ (no lv = 0 ∨ 0 < pc_ lv) := by
    rw [hk4]
    by_cases e : pc_ lv = 0
    · rw [if_pos e]; omega
    · rw [if_neg e]; omega
  by_cases e124 : src a = 124
  · have e : rd_on src len a lv noc uo io P = rd_un a lv noc uo io P := if_pos e124
    rw [e]
    by_cases hn : noc lv = 0
    · right
      rw [show rd_un a lv noc uo io P = (true, (a + 1, lv, noc, va_up uo lv true, va_up io lv false, pg_add (rd_eU uo io lv P) (0, 0, 1))) from if_pos hn]
      exact ⟨_, _, _, _, _, _, _, _, _, _, _, _, lo_, im, ex, ds, rfl, by omega, by omega, sm_run.one (by rw [md_at_lt ha, e124, md_tkR_0, md_pl_124 (hcn.mp hn)]), sm_bd_un h (by omega) hn⟩
    · left
      rw [show rd_un a lv noc uo io P = (false, (a, lv, noc, uo, io, P)) from if_neg hn]
      exact ⟨rfl, by show a ≤ len; omega, sm_stop.one (by rw [md_at_lt ha, e124, md_tkR_0]; exact md_pl_124f (fun z => hn (hcn.mpr z))) (by omega)⟩
  by_cases e38 : src a = 38
  · have e : rd_on src len a lv noc uo io P = rd_in a lv noc uo io P := by
      unfold rd_on
      rw [if_neg e124, if_pos e38]
    rw [e]
    by_cases hn : noc lv = 0
    · right
      rw [show rd_in a lv noc uo io P = (true, (a + 1, lv, noc, uo, va_up io lv true, pg_add (rd_eI io lv P) (0, 0, 1))) from if_pos hn]
      exact ⟨_, _, _, _, _, _, _, _, _, _, _, _, lo_, im, ex, ds, rfl, by omega, by omega, sm_run.one (by rw [md_at_lt ha, e38, md_tkR_0, md_pl_38 (hcn.mp hn)]), (sm_bd_in h (by omega) hn).2⟩
    · left
      rw [show rd_in a lv noc uo io P = (false, (a, lv, noc, uo, io, P)) from if_neg hn]
      exact ⟨rfl, by show a ≤ len; omega, sm_stop.one (by rw [md_at_lt ha, e38, md_tkR_0]; exact md_pl_38f (fun z => hn (hcn.mpr z))) (by omega)⟩
  by_cases e126 : src a = 126
  · have e : rd_on src len a lv noc uo io P = (true, (a + 1, lv, va_up noc lv (noc lv + 1), uo, io, P)) := by
      unfold rd_on
      rw [if_neg e124, if_neg e38, if_pos e126]
    right
    rw [e]
    exact ⟨_, _, _, _, _, _, _, _, _, _, _, _, lo_, im, ex, ds, rfl, by omega, by omega, sm_run.one (by rw [md_at_lt ha, e126, md_tkR_0, md_pl_126]), sm_bd_ti h (by omega)⟩
  by_cases e40 : src a = 40
  · have fl := h.2.1.1
    have e : rd_on src len a lv noc uo io P = (true, (a + 1, lv + 1, va_up noc (lv + 1) 0, va_up uo (lv + 1) false, va_up io (lv + 1) false, pg_add P (0, 0, 1))) := by
      unfold rd_on
      rw [if_neg e124, if_neg e38, if_neg e126, if_pos e40]
      exact if_pos (by omega)
    right
    rw [e]
    exact ⟨_, _, _, _, _, _, _, _, _, _, _, _, lo_, im, ex, ds, rfl, by omega, by omega, sm_run.one (by rw [md_at_lt ha, e40, md_tkR_0, md_pl_40]), sm_bd_op h (by omega)⟩
  by_cases e41 : src a = 41
  · have e : rd_on src len a lv noc uo io P = rd_2 src len (rd_cl a lv noc uo io P) := by
      unfold rd_on
      rw [if_neg e124, if_neg e38, if_neg e126, if_neg e40, if_pos e41]
    rw [e]
    by_cases hn : lv ≠ 0 ∧ noc lv = 0
    · cases lv with
      | zero => exact absurd rfl hn.1
      | succ d =>
        have e2 : rd_2 src len (rd_cl a (d + 1) noc uo io P) = rd_ep src len (a + 1) d noc uo io (rd_eU uo io (d + 1) P) := by
          rw [show rd_cl a (d + 1) noc uo io P = (true, (a + 1, d, noc, uo, io, rd_eU uo io (d + 1) P)) from if_pos hn]
          rfl
        rw [e2]
        have run1 := sm_run.one (src := src) (len := len) (a := a) (R := (NL, d + 1, un, ii, rw_, no, pc_, 0, lo_, im, ex, ds)) (by rw [md_at_lt ha, e41, md_tkR_0, md_pl_41 ⟨hn.1, hcn.mp hn.2⟩])
        rcases sm_ep (lo_ := lo_) (im := im) (ex := ex) (ds := ds) hlen hs (by omega) (sm_pi_cl h (by omega) hn.2) with ⟨q1, q2, q3⟩ | ⟨b, P1, NL1, pc1, lo1, im1, q1, q2, q3, q4, q5⟩
        · exact Or.inl ⟨q1, q2, run1.stop q3 (by omega)⟩
        · exact Or.inr ⟨b, _, _, _, _, _, _, _, _, _, _, _, _, _, _, _, q1, by omega, q3, run1.trans q4, q5⟩
    · left
      rw [show rd_2 src len (rd_cl a lv noc uo io P) = (false, (a, lv, noc, uo, io, P)) by rw [show rd_cl a lv noc uo io P = (false, (a, lv, noc, uo, io, P)) from if_neg hn]; rfl]
      exact ⟨rfl, by show a ≤ len; omega, sm_stop.one (by rw [md_at_lt ha, e41, md_tkR_0]; exact md_pl_41f (fun z => hn ⟨z.1, hcn.mpr z.2⟩)) (by omega)⟩
  by_cases e91 : src a = 91
  · have e : rd_on src len a lv noc uo io P = rd_x2 src len lv noc uo io (rd_cx src len a P) := by
      unfold rd_on
      rw [if_neg e124, if_neg e38, if_neg e126, if_neg e40, if_neg e41, if_pos e91]
    rw [e]
    rcases sm_cx (lo_ := lo_) (im := im) (ex := ex) (ds := ds) hlen hs h ha e91 with ⟨q1, q2, q3⟩ | ⟨b, P1, NL1, rw1, no1, pc1, lo1, im1, ex1, ds1, q1, q2, q3, q4, q5⟩
    · left
      rw [show rd_x2 src len lv noc uo io (rd_cx src len a P) = (false, ((rd_cx src len a P).2.1, lv, noc, uo, io, (rd_cx src len a P).2.2)) from if_neg (by rw [q1]; decide)]
      exact ⟨rfl, q2, q3⟩
    · have e2 : rd_x2 src len lv noc uo io (rd_cx src len a P) = rd_ep src len b lv noc uo io P1 := by
        rw [q1]
        rfl
      rw [e2]
      rcases sm_ep (lo_ := lo1) (im := im1) (ex := ex1) (ds := ds1) hlen hs q3 q5 with ⟨r1, r2, r3⟩ | ⟨b2, P2, NL2, pc2, lo2, im2, r1, r2, r3, r4, r5⟩
      · exact Or.inl ⟨r1, r2, q4.stop r3 (by omega)⟩
      · exact Or.inr ⟨b2, _, _, _, _, _, _, _, _, _, _, _, _, _, _, _, r1, by omega, r3, q4.trans r4, r5⟩
  by_cases e46 : src a = 46
  · have e : rd_on src len a lv noc uo io P = rd_ep src len (a + 1) lv noc uo io (pg_add P (1, 32, 127)) := by
      unfold rd_on
      rw [if_neg e124, if_neg e38, if_neg e126, if_neg e40, if_neg e41, if_neg e91, if_pos e46]
    rw [e]
    have run1 := sm_run.one (src := src) (len := len) (a := a) (R := (NL, lv, un, ii, rw_, no, pc_, 0, lo_, im, ex, ds)) (by rw [md_at_lt ha, e46, md_tkR_0, md_pl_46])
    have p0 := sm_pr_of_bd h (by omega) (sw_ins (fun _ => 0) 32 95)
    have p1 := sm_pr_push p0 (by omega) (x := 32) (y := 126) (by decide) (by decide) (by
      rw [show va_up pc_ lv ((md_cp NL (rw_ lv) (no lv) (pc_ lv)).1.length + 1) lv - 1 = (md_cp NL (rw_ lv) (no lv) (pc_ lv)).1.length by rw [va_up_eq']; rfl, sm_G_one]
      refine sw_rng (fun c hc1 hc2 => ?_)
      rw [sw_ins_hs hc1 (by decide), sw_0, Bool.false_or]
      by_cases q : 32 ≤ c ∧ c ≤ 126
      · rw [decide_eq_true q, decide_eq_true (by omega)]
      · rw [decide_eq_false q, decide_eq_false (by omega)])
    rcases sm_ep (lo_ := lo_) (im := im) (ex := false) (ds := ds) hlen hs (by omega) p1 with ⟨q1, q2, q3⟩ | ⟨b, P1, NL1, pc1, lo1, im1, q1, q2, q3, q4, q5⟩
    · exact Or.inl ⟨q1, q2, run1.stop q3 (by omega)⟩
    · exact Or.inr ⟨b, _, _, _, _, _, _, _, _, _, _, _, _, _, _, _, q1, by omega, q3, run1.trans q4, q5⟩
  by_cases bad : src a = 42 ∨ src a = 43 ∨ src a = 63 ∨ src a = 93 ∨ src a = 123 ∨ src a = 125
  · left
    have e : rd_on src len a lv noc uo io P = (false, (a, lv, noc, uo, io, P)) := by
      unfold rd_on
      rw [if_neg e124, if_neg e38, if_neg e126, if_neg e40, if_neg e41, if_neg e91, if_neg e46, if_pos bad]
    rw [e]
    refine ⟨rfl, by show a ≤ len; omega, sm_stop.one ?_ (by omega)⟩
    have hz : (src a = 42 ∨ src a = 43 ∨ src a = 63 ∨ src a = 123) → ¬ 0 < pc_ lv := fun z y => h.2.2.2.2.2.2 y ⟨ha, decide_eq_true z⟩
    rw [md_at_lt ha, md_tkR_0]
    rcases bad with q | q | q | q | q | q
    · have z := hz (Or.inl q)
      rw [q]
      exact md_pl_42f z
    · have z := hz (Or.inr (Or.inl q))
      rw [q]
      exact md_pl_43f z
    · have z := hz (Or.inr (Or.inr (Or.inl q)))
      rw [q]
      exact md_pl_63f z
    · rw [q]
      exact md_pl_93f
    · have z := hz (Or.inr (Or.inr (Or.inr q)))
      rw [q]
      exact md_pl_123f z
    · rw [q]
      exact md_pl_125f
  have e : rd_on src len a lv noc uo io P = rd_ep src len (a + 1) lv noc uo io (pg_add P (1, src a, src a + 1)) := by
    unfold rd_on
    rw [if_neg e124, if_neg e38, if_neg e126, if_neg e40, if_neg e41, if_neg e91, if_neg e46, if_neg bad]
  rw [e]
  have pn : md_pn (src a) := by
    unfold md_pn
    omega
  have run1 := sm_run.one (src := src) (len := len) (a := a) (R := (NL, lv, un, ii, rw_, no, pc_, 0, lo_, im, ex, ds)) (by rw [md_at_lt ha, md_tkR_0, md_pl_ch pn])
  have p0 := sm_pr_of_bd h (by omega) (sw_in (fun _ => 0) (src a))
  have p1 := sm_pr_push p0 (by omega) (x := src a) (y := src a) (by omega) (by omega) (by
    rw [show va_up pc_ lv ((md_cp NL (rw_ lv) (no lv) (pc_ lv)).1.length + 1) lv - 1 = (md_cp NL (rw_ lv) (no lv) (pc_ lv)).1.length by rw [va_up_eq']; rfl, sm_G_one]
    refine sw_rng (fun c hc1 hc2 => ?_)
    rw [sw_in_hs hc1 hq.1, sw_0, Bool.false_or]
    by_cases q : c = src a
    · rw [decide_eq_true q, decide_eq_true (by omega)]
    · rw [decide_eq_false q, decide_eq_false (by omega)])
  rcases sm_ep (lo_ := lo_) (im := im) (ex := false) (ds := ds) hlen hs (by omega) p1 with ⟨q1, q2, q3⟩ | ⟨b, P1, NL1, pc1, lo1, im1, q1, q2, q3, q4, q5⟩
  · exact Or.inl ⟨q1, q2, run1.stop q3 (by omega)⟩
  · exact Or.inr ⟨b, _, _, _, _, _, _, _, _, _, _, _, _, _, _, _, q1, by omega, q3, run1.trans q4, q5⟩

theorem sm_lp {src : Nat → Nat} {len : Nat} (hlen : len ≤ 40) (hs : ∀ j, j < len → 32 ≤ src j ∧ src j < 127) : ∀ (f a lv : Nat) (noc : Nat → Nat) (uo io : Nat → Bool) (P : pg_P) (NL : List md_N) (un ii rw_ no pc_ : Nat → Nat) (lo_ : Int32) (im : Nat) (ex ds : Bool), len - a ≤ f → a ≤ len → sm_bd src len a lv noc uo io P NL un ii rw_ no pc_ → ((rd_lp src len f (a, lv, noc, uo, io, P)).1 = false ∧ (rd_lp src len f (a, lv, noc, uo, io, P)).2.1 ≤ len ∧ sm_stop src len a (NL, lv, un, ii, rw_, no, pc_, 0, lo_, im, ex, ds) (rd_lp src len f (a, lv, noc, uo, io, P)).2.1) ∨ ∃ lv' noc' uo' io' P' NL' un' ii' rw' no' pc' lo' im' ex' ds', rd_lp src len f (a, lv, noc, uo, io, P) = (true, (len, lv', noc', uo', io', P')) ∧ sm_run src len a (NL, lv, un, ii, rw_, no, pc_, 0, lo_, im, ex, ds) len (NL', lv', un', ii', rw', no', pc', 0, lo', im', ex', ds') ∧ sm_bd src len len lv' noc' uo' io' P' NL' un' ii' rw' no' pc'
  | 0, a, lv, noc, uo, io, P, NL, un, ii, rw_, no, pc_, lo_, im, ex, ds, hf, ha, h => by
    have e : a = len := by omega
    subst e
    exact Or.inr ⟨_, _, _, _, _, _, _, _, _, _, _, _, _, _, _, rfl, sm_run.refl, h⟩
  | f + 1, a, lv, noc, uo, io, P, NL, un, ii, rw_, no, pc_, lo_, im, ex, ds, hf, ha, h => by
    by_cases hl : a < len
    · have e : rd_lp src len (f + 1) (a, lv, noc, uo, io, P) = (if (rd_on src len a lv noc uo io P).1 = true then rd_lp src len f (rd_on src len a lv noc uo io P).2 else rd_on src len a lv noc uo io P) := if_pos hl
      rcases sm_on (lo_ := lo_) (im := im) (ex := ex) (ds := ds) hlen hs h hl with ⟨q1, q2, q3⟩ | ⟨b, lv1, noc1, uo1, io1, P1, NL1, un1, ii1, rw1, no1, pc1, lo1, im1, ex1, ds1, q1, q2, q3, q4, q5⟩
      · left
        rw [e, if_neg (by rw [q1]; decide)]
        exact ⟨q1, q2, q3⟩
      · rw [q1] at e
        have e : rd_lp src len (f + 1) (a, lv, noc, uo, io, P) = rd_lp src len f (b, lv1, noc1, uo1, io1, P1) := e
        rw [e]
        rcases sm_lp hlen hs f b lv1 noc1 uo1 io1 P1 NL1 un1 ii1 rw1 no1 pc1 lo1 im1 ex1 ds1 (by omega) q3 q5 with ⟨r1, r2, r3⟩ | ⟨lv2, noc2, uo2, io2, P2, NL2, un2, ii2, rw2, no2, pc2, lo2, im2, ex2, ds2, r1, r2, r3⟩
        · exact Or.inl ⟨r1, r2, q4.stop r3 (by omega)⟩
        · exact Or.inr ⟨_, _, _, _, _, _, _, _, _, _, _, _, _, _, _, r1, q4.trans r2, r3⟩
    · have e : a = len := by omega
      subst e
      exact Or.inr ⟨_, _, _, _, _, _, _, _, _, _, _, _, _, _, _, if_neg hl, sm_run.refl, h⟩

theorem sm_bd_0 {src : Nat → Nat} {len : Nat} {noc : Nat → Nat} {uo io : Nat → Bool} {un ii rw_ no pc_ : Nat → Nat} : sm_bd src len 0 0 (va_up noc 0 0) (va_up uo 0 false) (va_up io 0 false) (pg_add [] (0, 0, 1)) [] (va_up un 0 0) (va_up ii 0 0) (va_up rw_ 0 0) (va_up no 0 0) (va_up pc_ 0 0) := by
  have hx : sm_X [] (va_up un 0 0) (va_up ii 0 0) (va_up rw_ 0 0) 0 = 0 := by
    unfold sm_X
    rw [va_up_eq', va_up_eq']
    rfl
  refine ⟨(md_v_0 (lo_ := 0) (im := 0) (ex := false) (ds := false)).1, ⟨Nat.le_refl _, fun j hj => ?_, by rw [hx]; exact Nat.le_refl _⟩, fun j hj => absurd hj (Nat.not_lt_zero _), by rw [va_up_eq', va_up_eq', va_up_eq', if_pos rfl], ?_, ?_, fun z => by rw [va_up_eq'] at z; omega⟩
  · have e : j = 0 := by omega
    subst e
    rw [va_up_eq', va_up_eq', va_up_eq', va_up_eq']
    exact ⟨rfl, rfl⟩
  · unfold sm_bel
    rw [va_up_eq', va_up_eq', va_up_eq', va_up_eq', va_up_eq']
    exact sm_Q.eps (b := sm_b 0 0) (P := []) (t := []) ⟨trivial, rfl⟩ (by decide) (by decide)
  · rw [hx, va_up_eq']
    exact Nat.le_refl _

theorem md_go_congr {f g : Nat → Nat} {len : Nat} (h : ∀ j, j < len → f j = g j) : ∀ (n a : Nat) (R : md_R), md_go f len n a R = md_go g len n a R
  | 0, _, _ => rfl
  | n + 1, a, R => by
    have e : md_at f len a = md_at g len a := by
      unfold md_at
      split
      · next q => rw [h a q]
      · rfl
    show (if (md_tkR R (md_at f len a)).1 = true then md_go f len n (a + 1) (md_tkR R (md_at f len a)).2 else (a, (md_tkR R (md_at f len a)).2)) = (if (md_tkR R (md_at g len a)).1 = true then md_go g len n (a + 1) (md_tkR R (md_at g len a)).2 else (a, (md_tkR R (md_at g len a)).2))
    rw [e, md_go_congr h n]
/-- the two readings: both wrong at the same place, or both right, and the class's program and the reference's last node are the same language -/
def sm_both (len : Nat) (out : Bool × rd_S) (G : Nat × md_R) : Prop := (out.1 = false ∧ out.2.1 ≤ len ∧ G.1 = out.2.1) ∨ (out.1 = true ∧ G.1 = len + 1 ∧ md_fi G.2.1 ∧ 0 < G.2.1.length ∧ G.2.1.length ≤ 128 ∧ dm_ok out.2.2.2.2.2.2 0 ∧ ∃ A, dm_den out.2.2.2.2.2.2 [] = [A] ∧ dm_sm A (sm_G G.2.1 (G.2.1.length - 1)))

theorem sm_all {src bf : Nat → Nat} {len : Nat} (hlen : len ≤ 40) (hs : ∀ j, j < len → 32 ≤ src j ∧ src j < 127) (hbf : ∀ j, j < len → bf j = src j) {noc : Nat → Nat} {uo io : Nat → Bool} {un ii rw_ no pc_ : Nat → Nat} {lo_ : Int32} {im : Nat} {ex ds : Bool} : sm_both len (rd_rd src len noc uo io) (md_go bf len (len + 1) 0 ([], 0, va_up un 0 0, va_up ii 0 0, va_up rw_ 0 0, va_up no 0 0, va_up pc_ 0 0, 0, lo_, im, ex, ds)) := by
  rw [md_go_congr hbf]
  unfold rd_rd rd_s0
  rcases sm_lp hlen hs len 0 0 (va_up noc 0 0) (va_up uo 0 false) (va_up io 0 false) (pg_add [] (0, 0, 1)) [] (va_up un 0 0) (va_up ii 0 0) (va_up rw_ 0 0) (va_up no 0 0) (va_up pc_ 0 0) lo_ im ex ds (by omega) (Nat.zero_le _) sm_bd_0 with ⟨q1, q2, q3⟩ | ⟨lv, noc1, uo1, io1, P1, NL1, un1, ii1, rw1, no1, pc1, lo1, im1, ex1, ds1, q1, q2, q3⟩
  · left
    rw [show rd_fin (rd_lp src len len (0, 0, va_up noc 0 0, va_up uo 0 false, va_up io 0 false, pg_add [] (0, 0, 1))) = rd_lp src len len (0, 0, va_up noc 0 0, va_up uo 0 false, va_up io 0 false, pg_add [] (0, 0, 1)) from if_neg (by rw [q1]; decide)]
    exact ⟨q1, q2, q3 _ (by omega)⟩
  · rw [q1]
    have hg := q2.2 1
    rw [show 1 + (len - 0) = len + 1 by omega] at hg
    rw [hg]
    have k4 := q3.2.2.2.1
    by_cases c : 0 < lv ∨ 0 < noc1 lv
    · left
      rw [show rd_fin (true, (len, lv, noc1, uo1, io1, P1)) = (false, (len, lv, noc1, uo1, io1, P1)) from (if_pos rfl).trans (if_pos c)]
      refine ⟨rfl, Nat.le_refl _, ?_⟩
      exact sm_stop.one (src := src) (len := len) (a := len) (R := (NL1, lv, un1, ii1, rw1, no1, pc1, 0, lo1, im1, ex1, ds1)) (by
        rw [md_at_ge (by omega), md_tkR_0]
        refine md_pl_nonef (fun z => ?_)
        by_cases e : pc1 lv = 0
        · rw [if_pos e] at k4
          omega
        · rw [if_neg e] at k4
          omega) (Nat.le_refl _) 1 (by omega)
    · right
      have hl0 : lv = 0 := by omega
      subst hl0
      have hn : noc1 0 = 0 := by omega
      obtain ⟨hc, c1, c4, c5, c7, Q1, Q2⟩ := sm_ci_of q3 hlen hn
      have hw := md_w_ci q3.1 hlen hc
      rw [show rd_fin (true, (len, 0, noc1, uo1, io1, P1)) = (true, (len, 0, noc1, uo1, io1, rd_eU uo1 io1 0 P1)) from (if_pos rfl).trans (if_neg c)]
      have run := sm_run.one (src := src) (len := len) (a := len) (R := (NL1, 0, un1, ii1, rw1, no1, pc1, 0, lo1, im1, ex1, ds1)) (by rw [md_at_ge (by omega), md_tkR_0, md_pl_none ⟨rfl, hc⟩])
      have hg2 := run.2 0
      rw [show 0 + (len + 1 - len) = 1 by omega] at hg2
      rw [hg2]
      have e1 := Q1.1
      have e2 := Q1.2
      obtain ⟨A, s, z1, z2, z3⟩ := sm_eq_cons e1
      have z4 := sm_eq_nil z3
      subst z4
      refine ⟨rfl, rfl, hw.2.2.2.2.2, ?_, ?_, dm_pre_ok (b := sm_b len 0) (by unfold sm_b; omega) e2, A, z1, ?_⟩
      · show 0 < (md_ci NL1 (un1 0) (ii1 0) (rw1 0) (no1 0) (pc1 0)).1.length
        omega
      · show (md_ci NL1 (un1 0) (ii1 0) (rw1 0) (no1 0) (pc1 0)).1.length ≤ 128
        have := hw.2.1
        omega
      · show dm_sm A (sm_G (md_ci NL1 (un1 0) (ii1 0) (rw1 0) (no1 0) (pc1 0)).1 ((md_ci NL1 (un1 0) (ii1 0) (rw1 0) (no1 0) (pc1 0)).1.length - 1))
        rw [← c4, c7]
        exact z2
