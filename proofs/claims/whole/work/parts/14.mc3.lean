theorem ro_thr_congr {x : Int32} {g g' : Nat → Int32} {i : Nat} (h : ∀ a, bt x a = true → g (i + a) = g' (i + a)) : ∀ r, ro_thr x g i r = ro_thr x g' i r
  | 0 => rfl
  | r + 1 => by
    show (if bt x r = true then ro_thr x g i r ||| (g (i + r) <<< (nI r &&& 31)) else ro_thr x g i r) = (if bt x r = true then ro_thr x g' i r ||| (g' (i + r) <<< (nI r &&& 31)) else ro_thr x g' i r)
    rw [ro_thr_congr h r]
    by_cases hx : bt x r = true
    · rw [if_pos hx, if_pos hx, h r hx]
    · rw [if_neg hx, if_neg hx]
theorem ro_lt_congr {n M : Nat} {x : Int32} {g g' : Nat → Int32} {i : Nat} (h : ∀ a, bt x a = true → g (i + a) = g' (i + a)) : ro_lt n M x g i = ro_lt n M x g' i := by
  unfold ro_lt
  rw [ro_thr_congr h]
theorem ro_m2_pos {x : Int32} {a : Nat} (h : bt (x &&& (-2)) a = true) : 1 ≤ a := by
  rw [b_and, Bool.and_eq_true] at h
  rcases Nat.lt_or_ge a 32 with q | q
  · have := h.2
    rw [ro_m2_bt q, decide_eq_true_eq] at this
    omega
  · omega
theorem ro_loop_step {n M k : Nat} {f g : Nat → Int32} {v : Int32} (hv : v = nI 1 ||| ro_lt n M (g k &&& (-2)) g k) (hlo : ∀ j, j < k + 1 → g j = f j) (hup : ∀ j, k + 1 ≤ j → j ≤ n → g j = 1 ||| ro_lt n M (f j &&& (-2)) g j) : ∀ j, k ≤ j → j ≤ n → upd g k v j = 1 ||| ro_lt n M (f j &&& (-2)) (upd g k v) j := by
  have key : ∀ j, k ≤ j → ro_lt n M (f j &&& (-2)) (upd g k v) j = ro_lt n M (f j &&& (-2)) g j := by
    intro j hj
    apply ro_lt_congr
    intro a ha
    have := ro_m2_pos ha
    exact pk_un (by omega)
  intro j h1 h2
  rw [key j h1]
  by_cases e : j = k
  · subst e
    rw [pk_us, hv, hlo j (by omega)]
    rfl
  · rw [pk_un e]
    exact hup j (by omega) h2
theorem ro_is_congr {n M : Nat} {t : Nat → Nat} {A : dm_L} {f g : Nat → Int32} (h : ro_is n M t A f) (e : ∀ i, i ≤ n → g i = f i) : ro_is n M t A g := by
  intro i hi k
  rw [e i hi]
  exact h i hi k
theorem ro_fl {n M : Nat} {t : Nat → Nat} {A : dm_L} {F f : Nat → Int32} (h : ro_is n M t A F) : ro_is n M t A (kz_fl F f (n + 1)) := ro_is_congr h fun i hi => kz_fl_in (by omega)

set_option maxHeartbeats 4000000 in
set_option maxRecDepth 100000 in
theorem cm_Dm_longestOf (l : Launch) (D : va_G) (q : Nat → ClassId) (x : Int32)  : kz_Mi (S := Unit) l ky_Dm_longestOf kb_Dm_longestOf 2 (some .int) 1 D q [.int x] [] (fun r _ => r = ro_long x 25) (fun _ => []) := by
  intro sz
  refine kz_go (by decide +kernel) (Nat.le_of_ble_eq_true rfl) ?_
  intro p e s m below meth c ls args A Q H locs hQ hA X U hl
  have hx := X.1
  have hb := X.2.1
  have hl : lv_has ls 2 [(0, .int x)] := hl
  refine kz_bp X 24 kd_Dm_longestOf_0 (by decide) ?_
  refine lv_istore_n hx hb kd_Dm_longestOf_2 rfl hl (by decide) rfl (fun ls hl => ?_)
  have hl : lv_has ls 2 [(1, .int (nI 24)), (0, .int x)] := hl
  have loop3 : ∀ (fuel : Nat) (k : Nat) (ls : Array Slot) (H : Heap) (locs : List Loc), k < fuel → (k ≤ 25) → (ro_long x 25 = ro_long x k) → lv_has ls 2 [(1, .int (nI k + (-1))), (0, .int x)] → kz_U D q s A [] H locs → W p l e (kz_rm 1) s m args below meth c H locs 0 0 Q (F0 m 3 ls []) := by
    intro fuel
    induction fuel with
    | zero => intro k ls H locs hme; exact absurd hme (Nat.not_lt_zero _)
    | succ fuel ih3 =>
      intro k ls H locs hme hk hv hl U
      rcases k with _ | k
      · refine lv_iload_n hx hb kd_Dm_longestOf_3 rfl (lv_at hl 0 rfl) ?_
        refine lv_if_lt hx hb kd_Dm_longestOf_4 rfl (fun h4 => ?_) (fun h4 => absurd h4 (fun z => z (by decide)))
        refine lv_iconst (v := (-1)) hx hb kd_Dm_longestOf_23 (by decide) ?_
        exact kz_ei hQ hA X U (()) rfl (by first | (rw [hv]; rfl) | (rw [hv]; show _ = if bt x k = true then nI k else ro_long x k; rw [if_pos h12])) kd_Dm_longestOf_24
      · rw [pk_m1] at hl
        refine lv_iload_n hx hb kd_Dm_longestOf_3 rfl (lv_at hl 0 rfl) ?_
        refine lv_if_lt hx hb kd_Dm_longestOf_4 rfl (fun h4 => absurd h4 (nI_pos (by omega))) (fun h4 => ?_)
        refine lv_iload_n hx hb kd_Dm_longestOf_7 rfl (lv_at hl 1 rfl) ?_
        refine lv_iload_n hx hb kd_Dm_longestOf_8 rfl (lv_at hl 0 rfl) ?_
        refine kz_cSi (av := [.int x, .int (nI k)]) (rest := []) (wr := []) X U hl.1 (cm_Dm_has l D q x k (by omega)) (by decide) (by decide) ⟨by decide, by decide⟩ tb_383 tb_359 tb_1 tb_360 kq_Dm_has [] [] (by decide) rfl rfl (by decide) (by decide) rfl (Nat.le_of_ble_eq_true rfl) kd_Dm_longestOf_9 (fun rv _ H locs hp U => ?_)
        subst hp
        have U : kz_U D q s A [] H locs := U
        refine kz_ifeqB X kd_Dm_longestOf_12 rfl (fun h12 => ?_) (fun h12 => ?_)
        · refine lv_iinc (k := 0) (v := nI k + (-1)) hx hb kd_Dm_longestOf_17 hl rfl rfl (by decide) rfl (fun ls hl => ?_)
          have hl : lv_has ls 2 [(1, .int (nI k + (-1))), (0, .int x)] := hl
          refine lv_goto hx hb kd_Dm_longestOf_20 rfl ?_
          exact ih3 k _ _ _ (by omega) (by omega) (by rw [hv]; show (if bt x k = true then nI k else ro_long x k) = _; rw [if_neg (by rw [h12]; decide)]) (lv_sub hl [0, 1] rfl) U
        · refine lv_iload_n hx hb kd_Dm_longestOf_15 rfl (lv_at hl 0 rfl) ?_
          exact kz_ei hQ hA X U (()) rfl (by first | (rw [hv]; rfl) | (rw [hv]; show _ = if bt x k = true then nI k else ro_long x k; rw [if_pos h12])) kd_Dm_longestOf_16
  rw [← pk_m1 24] at hl
  exact loop3 _ 25 _ _ _ (Nat.lt_succ_self _) (by omega) rfl (lv_sub hl [0, 1] rfl) U

set_option maxHeartbeats 4000000 in
set_option maxRecDepth 100000 in
theorem cm_Mc_loop (l : Launch) (D : va_G) (q : Nat → ClassId) (h0 h1 n M a1 : Nat) (f : Nat → Int32) (hn : n ≤ 84) (hM : M ≤ 24) : kz_Mv (S := Nat → Int32) l ky_Mc_loop kb_Mc_loop 4 3 D q [.ref h0, .ref a1] [(h0, .inr (0, [.ref h1, .int (nI n), .int (nI M)])), (a1, .inl (q 0, 85, .inl f))] (fun g => ∀ j, j ≤ n → g j = 1 ||| ro_lt n M (f j &&& (-2)) g j) (fun g => [(h0, .inr (0, [.ref h1, .int (nI n), .int (nI M)])), (a1, .inl (q 0, 85, .inl g))]) := by
  intro sz
  refine kz_go (by decide +kernel) (Nat.le_of_ble_eq_true rfl) ?_
  intro p e s m below meth c ls args A Q H locs hQ hA X U hl
  have hx := X.1
  have hb := X.2.1
  have hl : lv_has ls 4 [(0, .ref h0), (1, .ref a1)] := hl
  refine lv_aload_n hx hb kd_Mc_loop_0 rfl (lv_at hl 0 rfl) ?_
  refine kg_Mc_65 X U 0 rfl rfl kd_Mc_loop_1 ?_
  refine lv_istore_n hx hb kd_Mc_loop_4 rfl hl (by decide) rfl (fun ls hl => ?_)
  have hl : lv_has ls 4 [(2, .int (nI n)), (0, .ref h0), (1, .ref a1)] := hl
  have loop5 : ∀ (fuel : Nat) (k : Nat) (g : Nat → Int32) (ls : Array Slot) (H : Heap) (locs : List Loc), k < fuel → (k ≤ n + 1) → (∀ j, j < k → g j = f j) → (∀ j, k ≤ j → j ≤ n → g j = 1 ||| ro_lt n M (f j &&& (-2)) g j) → lv_has ls 4 [(2, .int (nI k + (-1))), (0, .ref h0), (1, .ref a1)] → kz_U D q s A [(h0, .inr (0, [.ref h1, .int (nI n), .int (nI M)])), (a1, .inl (q 0, 85, .inl g))] H locs → W p l e (kz_rm 3) s m args below meth c H locs 0 0 Q (F0 m 5 ls []) := by
    intro fuel
    induction fuel with
    | zero => intro k g ls H locs hme; exact absurd hme (Nat.not_lt_zero _)
    | succ fuel ih5 =>
      intro k g ls H locs hme hk hlo hup hl U
      rcases k with _ | k
      · refine lv_iload_n hx hb kd_Mc_loop_5 rfl (lv_at hl 0 rfl) ?_
        refine lv_if_lt hx hb kd_Mc_loop_6 rfl (fun h6 => ?_) (fun h6 => absurd h6 (fun z => z (by decide)))
        exact kz_ev hQ hA X U g rfl (fun j hj => hup j (Nat.zero_le _) hj) kd_Mc_loop_34
      · rw [pk_m1] at hl
        refine lv_iload_n hx hb kd_Mc_loop_5 rfl (lv_at hl 0 rfl) ?_
        refine lv_if_lt hx hb kd_Mc_loop_6 rfl (fun h6 => absurd h6 (nI_pos (by omega))) (fun h6 => ?_)
        refine lv_aload_n hx hb kd_Mc_loop_9 rfl (lv_at hl 2 rfl) ?_
        refine lv_iload_n hx hb kd_Mc_loop_10 rfl (lv_at hl 0 rfl) ?_
        refine kz_iald (k := k) X U 1 rfl (by omega) (by omega) kd_Mc_loop_11 ?_
        refine lv_bipush (v := (-2)) hx hb kd_Mc_loop_12 (by decide) ?_
        refine lv_iand hx hb kd_Mc_loop_14 ?_
        refine lv_istore_n hx hb kd_Mc_loop_15 rfl hl (by decide) rfl (fun ls hl => ?_)
        have hl : lv_has ls 4 [(3, .int ((g k) &&& ((-2)))), (2, .int (nI k)), (0, .ref h0), (1, .ref a1)] := hl
        refine lv_aload_n hx hb kd_Mc_loop_16 rfl (lv_at hl 3 rfl) ?_
        refine lv_iload_n hx hb kd_Mc_loop_17 rfl (lv_at hl 1 rfl) ?_
        refine kz_ic X 1 kd_Mc_loop_18 (by decide) ?_
        refine lv_aload_n hx hb kd_Mc_loop_19 rfl (lv_at hl 2 rfl) ?_
        refine lv_iload_n hx hb kd_Mc_loop_20 rfl (lv_at hl 1 rfl) ?_
        refine lv_iload_n hx hb kd_Mc_loop_21 rfl (lv_at hl 0 rfl) ?_
        refine lv_aload_n hx hb kd_Mc_loop_22 rfl (lv_at hl 3 rfl) ?_
        refine kz_cSi (av := [.ref h0, .int (nI k), .int ((g k) &&& ((-2))), .ref a1]) (rest := [.int (nI 1), .int (nI k), .ref a1]) (wr := []) X U hl.1 (cm_Mc_lengthsThrough l D q h0 h1 n M a1 k (g k &&& (-2)) g (by omega) hn hM) (by decide) (by decide) ⟨by decide, by decide⟩ tb_350 tb_351 tb_10 tb_352 kq_Mc_lengthsThrough [0, 1] [] (by decide) rfl rfl (by decide) (by decide) rfl (Nat.le_of_ble_eq_true rfl) kd_Mc_loop_23 (fun rv _ H locs hp U => ?_)
        subst hp
        have U : kz_U D q s A [(h0, .inr (0, [.ref h1, .int (nI n), .int (nI M)])), (a1, .inl (q 0, 85, .inl g))] H locs := U
        refine lv_ior hx hb kd_Mc_loop_26 ?_
        refine kz_iast (k := k) X U 1 rfl (by omega) (by omega) kd_Mc_loop_27 (fun H locs U => ?_)
        have U : kz_U D q s A [(h0, .inr (0, [.ref h1, .int (nI n), .int (nI M)])), (a1, .inl (q 0, 85, .inl (upd g k ((nI 1) ||| (ro_lt n M (g k &&& (-2)) g k)))))] H locs := U
        refine lv_iinc (k := 1) (v := nI k + (-1)) hx hb kd_Mc_loop_28 hl rfl rfl (by decide) rfl (fun ls hl => ?_)
        have hl : lv_has ls 4 [(2, .int (nI k + (-1))), (3, .int ((g k) &&& ((-2)))), (0, .ref h0), (1, .ref a1)] := hl
        refine lv_goto hx hb kd_Mc_loop_31 rfl ?_
        exact ih5 k _ _ _ _ (by omega) (by omega) (fun j hj => by rw [pk_un (by omega)]; exact hlo j (by omega)) (ro_loop_step rfl hlo hup) (lv_sub hl [0, 2, 3] rfl) U
  rw [← pk_m1 n] at hl
  exact loop5 _ (n + 1) f _ _ _ (Nat.lt_succ_self _) (by omega) (fun _ _ => rfl) (fun j h1 h2 => absurd h1 (by omega)) (lv_sub hl [0, 1, 2] rfl) U

def kn_tk (k : Nat) : Nat := if k ≤ 1 then 0 else if k = 5 ∨ k = 6 then 1 else 2

set_option maxHeartbeats 4000000 in
set_option maxRecDepth 100000 in
theorem cm_Mc_valuesTakenBy (l : Launch) (D : va_G) (q : Nat → ClassId) (k : Nat) (hk : k ≤ 6) : kz_Mi (S := Unit) l ky_Mc_valuesTakenBy kb_Mc_valuesTakenBy 1 (some .int) 0 D q [.int (nI k)] [] (fun r _ => r = nI (kn_tk k)) (fun _ => []) := by
  intro sz
  refine kz_go (by decide +kernel) (Nat.le_of_ble_eq_true rfl) ?_
  intro p e s m below meth c ls args A Q H locs hQ hA X U hl
  have hx := X.1
  have hb := X.2.1
  have hl : lv_has ls 1 [(0, .int (nI k))] := hl
  refine lv_iload_n hx hb kd_Mc_valuesTakenBy_0 rfl (lv_at hl 0 rfl) ?_
  rcases (show k = 0 ∨ k = 1 ∨ k = 2 ∨ k = 3 ∨ k = 4 ∨ k = 5 ∨ k = 6 from by omega) with hk1 | hk1 | hk1 | hk1 | hk1 | hk1 | hk1
  · refine kz_top (y := nI 0) (by rw [hk1]) ?_
    refine lv_tableIn hx hb kd_Mc_valuesTakenBy_1 (by decide) (by decide) rfl rfl ?_
    refine kz_ic X 0 kd_Mc_valuesTakenBy_44 (by decide) ?_
    exact kz_ei hQ hA X U (()) rfl (by rw [hk1]; rfl) kd_Mc_valuesTakenBy_45
  · refine kz_top (y := nI 1) (by rw [hk1]) ?_
    refine lv_tableIn hx hb kd_Mc_valuesTakenBy_1 (by decide) (by decide) rfl rfl ?_
    refine kz_ic X 0 kd_Mc_valuesTakenBy_44 (by decide) ?_
    exact kz_ei hQ hA X U (()) rfl (by rw [hk1]; rfl) kd_Mc_valuesTakenBy_45
  · refine kz_top (y := nI 2) (by rw [hk1]) ?_
    refine lv_tableIn hx hb kd_Mc_valuesTakenBy_1 (by decide) (by decide) rfl rfl ?_
    refine kz_ic X 2 kd_Mc_valuesTakenBy_48 (by decide) ?_
    exact kz_ei hQ hA X U (()) rfl (by rw [hk1]; rfl) kd_Mc_valuesTakenBy_49
  · refine kz_top (y := nI 3) (by rw [hk1]) ?_
    refine lv_tableIn hx hb kd_Mc_valuesTakenBy_1 (by decide) (by decide) rfl rfl ?_
    refine kz_ic X 2 kd_Mc_valuesTakenBy_48 (by decide) ?_
    exact kz_ei hQ hA X U (()) rfl (by rw [hk1]; rfl) kd_Mc_valuesTakenBy_49
  · refine kz_top (y := nI 4) (by rw [hk1]) ?_
    refine lv_tableIn hx hb kd_Mc_valuesTakenBy_1 (by decide) (by decide) rfl rfl ?_
    refine kz_ic X 2 kd_Mc_valuesTakenBy_48 (by decide) ?_
    exact kz_ei hQ hA X U (()) rfl (by rw [hk1]; rfl) kd_Mc_valuesTakenBy_49
  · refine kz_top (y := nI 5) (by rw [hk1]) ?_
    refine lv_tableIn hx hb kd_Mc_valuesTakenBy_1 (by decide) (by decide) rfl rfl ?_
    refine kz_ic X 1 kd_Mc_valuesTakenBy_46 (by decide) ?_
    exact kz_ei hQ hA X U (()) rfl (by rw [hk1]; rfl) kd_Mc_valuesTakenBy_47
  · refine kz_top (y := nI 6) (by rw [hk1]) ?_
    refine lv_tableIn hx hb kd_Mc_valuesTakenBy_1 (by decide) (by decide) rfl rfl ?_
    refine kz_ic X 1 kd_Mc_valuesTakenBy_46 (by decide) ?_
    exact kz_ei hQ hA X U (()) rfl (by rw [hk1]; rfl) kd_Mc_valuesTakenBy_47

theorem kn_tk_lt (k : Nat) : kn_tk k < 2 ^ 31 := by
  unfold kn_tk
  split
  · omega
  · split <;> omega

set_option maxHeartbeats 4000000 in
set_option maxRecDepth 100000 in
theorem cm_Mc_hasRowsFor (l : Launch) (D : va_G) (q : Nat → ClassId) (k h : Nat) (hk : k ≤ 6) (hh : h < 2 ^ 30) : kz_Mi (S := Unit) l ky_Mc_hasRowsFor kb_Mc_hasRowsFor 2 (some .boolean) 1 D q [.int (nI k), .int (nI h)] [] (fun r _ => r = nB (decide (kn_tk k ≤ h ∧ h < 41))) (fun _ => []) := by
  intro sz
  refine kz_go (by decide +kernel) (Nat.le_of_ble_eq_true rfl) ?_
  intro p e s m below meth c ls args A Q H locs hQ hA X U hl
  have hx := X.1
  have hb := X.2.1
  have hl : lv_has ls 2 [(0, .int (nI k)), (1, .int (nI h))] := hl
  refine lv_iload_n hx hb kd_Mc_hasRowsFor_0 rfl (lv_at hl 1 rfl) ?_
  refine lv_iload_n hx hb kd_Mc_hasRowsFor_1 rfl (lv_at hl 0 rfl) ?_
  refine kz_cSi (av := [.int (nI k)]) (rest := [.int (nI h)]) (wr := []) X U hl.1 (cm_Mc_valuesTakenBy l D q k hk) (by decide) (by decide) ⟨by decide, by decide⟩ tb_338 tb_339 tb_10 tb_340 kq_Mc_valuesTakenBy [] [] (by decide) rfl rfl (by decide) (by decide) rfl (Nat.le_of_ble_eq_true rfl) kd_Mc_hasRowsFor_2 (fun rv _ H locs hp U => ?_)
  subst hp
  have U : kz_U D q s A [] H locs := U
  refine kz_iclt X (by first | omega | exact kn_tk_lt k) (by first | omega | exact kn_tk_lt k) kd_Mc_hasRowsFor_5 rfl (fun h5 => ?_) (fun h5 => ?_)
  · refine kz_ic X 0 kd_Mc_hasRowsFor_18 (by decide) ?_
    refine kz_top (y := nB false) rfl ?_
    exact kz_ez hQ hA X U (()) rfl (by first | rw [decide_eq_true (by omega)] | rw [decide_eq_false (by omega)]) kd_Mc_hasRowsFor_19
  · refine lv_iload_n hx hb kd_Mc_hasRowsFor_8 rfl (lv_at hl 1 rfl) ?_
    refine kz_bp X 41 kd_Mc_hasRowsFor_9 (by decide) ?_
    refine kz_icge X (by first | omega | exact kn_tk_lt k) (by first | omega | exact kn_tk_lt k) kd_Mc_hasRowsFor_11 rfl (fun h11 => ?_) (fun h11 => ?_)
    · refine kz_ic X 0 kd_Mc_hasRowsFor_18 (by decide) ?_
      refine kz_top (y := nB false) rfl ?_
      exact kz_ez hQ hA X U (()) rfl (by first | rw [decide_eq_true (by omega)] | rw [decide_eq_false (by omega)]) kd_Mc_hasRowsFor_19
    · refine kz_ic X 1 kd_Mc_hasRowsFor_14 (by decide) ?_
      refine lv_goto hx hb kd_Mc_hasRowsFor_15 rfl ?_
      refine kz_top (y := nB true) rfl ?_
      exact kz_ez hQ hA X U (()) rfl (by first | rw [decide_eq_true (by omega)] | rw [decide_eq_false (by omega)]) kd_Mc_hasRowsFor_19
