/-! the reader: what each method does to (at, level, nots, union open, intersection open, program), as the code does it -/
def pg_add (P : List (Nat × Nat × Nat)) (i : Nat × Nat × Nat) : List (Nat × Nat × Nat) := if P.length < 81 then P ++ [i] else P

set_option maxHeartbeats 4000000 in
set_option maxRecDepth 100000 in
theorem cm_Pg_addP (l : Launch) (D : va_G) (q : Nat → ClassId) (hg ak al ah : Nat) (k a b : Nat) (hv : Int32) (P : List (Nat × Nat × Nat)) (fk fl fh : Nat → Int32) (hh : hv = nI b + (-1)) (hP : kz_pg P fk fl fh) : kz_Mv (S := (Nat → Int32) × (Nat → Int32) × (Nat → Int32)) l ky_Pg_add kb_Pg_add 4 0 D q [.ref hg, .int (nI k), .int (nI a), .int hv] [(hg, .inr (3, [.ref ak, .ref al, .ref ah, .int (nI P.length)])), (ak, .inl (q 0, 81, .inl fk)), (al, .inl (q 0, 81, .inl fl)), (ah, .inl (q 0, 81, .inl fh))] (fun u => kz_pg (pg_add P (k, a, b)) u.1 u.2.1 u.2.2) (fun u => [(hg, .inr (3, [.ref ak, .ref al, .ref ah, .int (nI ((pg_add P (k, a, b)).length))])), (ak, .inl (q 0, 81, .inl u.1)), (al, .inl (q 0, 81, .inl u.2.1)), (ah, .inl (q 0, 81, .inl u.2.2))]) := by
  intro sz_
  refine kz_go (by decide +kernel) (Nat.le_of_ble_eq_true rfl) ?_
  intro p e s m below meth c ls args A Q H locs hQ hA X U hl
  have hx := X.1
  have hb := X.2.1
  have hl : lv_has ls 4 [(0, .ref hg), (1, .int (nI k)), (2, .int (nI a)), (3, .int hv)] := hl
  have hP81 := hP.1
  refine lv_aload_n hx hb kd_Pg_add_0 rfl (lv_at hl 0 rfl) ?_
  refine kg_Pg_21 X U 0 rfl rfl kd_Pg_add_1 ?_
  refine kz_bp X 81 kd_Pg_add_4 (by decide) ?_
  refine kz_icge X (by omega) (by omega) kd_Pg_add_6 rfl (fun h6 => ?_) (fun h6 => ?_)
  · exact kz_ev hQ hA X U ((fk, fl, fh)) (by rw [show pg_add P (k, a, b) = P from if_neg (by omega)]) (by rw [show pg_add P (k, a, b) = P from if_neg (by omega)]; exact hP) kd_Pg_add_49
  · refine lv_aload_n hx hb kd_Pg_add_9 rfl (lv_at hl 0 rfl) ?_
    refine kg_Pg_9 X U 0 rfl rfl kd_Pg_add_10 ?_
    refine lv_aload_n hx hb kd_Pg_add_13 rfl (lv_at hl 0 rfl) ?_
    refine kg_Pg_21 X U 0 rfl rfl kd_Pg_add_14 ?_
    refine lv_iload_n hx hb kd_Pg_add_17 rfl (lv_at hl 1 rfl) ?_
    refine kz_iast (k := P.length) X U 1 rfl (by omega) (by omega) kd_Pg_add_18 (fun H locs U => ?_)
    have U : kz_U D q s A [(hg, .inr (3, [.ref ak, .ref al, .ref ah, .int (nI P.length)])), (ak, .inl (q 0, 81, .inl (upd fk P.length (nI k)))), (al, .inl (q 0, 81, .inl fl)), (ah, .inl (q 0, 81, .inl fh))] H locs := U
    refine lv_aload_n hx hb kd_Pg_add_19 rfl (lv_at hl 0 rfl) ?_
    refine kg_Pg_15 X U 0 rfl rfl kd_Pg_add_20 ?_
    refine lv_aload_n hx hb kd_Pg_add_23 rfl (lv_at hl 0 rfl) ?_
    refine kg_Pg_21 X U 0 rfl rfl kd_Pg_add_24 ?_
    refine lv_iload_n hx hb kd_Pg_add_27 rfl (lv_at hl 2 rfl) ?_
    refine kz_iast (k := P.length) X U 2 rfl (by omega) (by omega) kd_Pg_add_28 (fun H locs U => ?_)
    have U : kz_U D q s A [(hg, .inr (3, [.ref ak, .ref al, .ref ah, .int (nI P.length)])), (ak, .inl (q 0, 81, .inl (upd fk P.length (nI k)))), (al, .inl (q 0, 81, .inl (upd fl P.length (nI a)))), (ah, .inl (q 0, 81, .inl fh))] H locs := U
    refine lv_aload_n hx hb kd_Pg_add_29 rfl (lv_at hl 0 rfl) ?_
    refine kg_Pg_18 X U 0 rfl rfl kd_Pg_add_30 ?_
    refine lv_aload_n hx hb kd_Pg_add_33 rfl (lv_at hl 0 rfl) ?_
    refine kg_Pg_21 X U 0 rfl rfl kd_Pg_add_34 ?_
    refine lv_iload_n hx hb kd_Pg_add_37 rfl (lv_at hl 3 rfl) ?_
    refine kz_iast (k := P.length) X U 3 rfl (by omega) (by omega) kd_Pg_add_38 (fun H locs U => ?_)
    have U : kz_U D q s A [(hg, .inr (3, [.ref ak, .ref al, .ref ah, .int (nI P.length)])), (ak, .inl (q 0, 81, .inl (upd fk P.length (nI k)))), (al, .inl (q 0, 81, .inl (upd fl P.length (nI a)))), (ah, .inl (q 0, 81, .inl (upd fh P.length hv)))] H locs := U
    refine lv_aload_n hx hb kd_Pg_add_39 rfl (lv_at hl 0 rfl) ?_
    refine lv_dup hx hb kd_Pg_add_40 rfl ?_
    refine kg_Pg_21 X U 0 rfl rfl kd_Pg_add_41 ?_
    refine kz_ic X 1 kd_Pg_add_44 (by decide) ?_
    refine kz_iadd X kd_Pg_add_45 ?_
    refine kz_top (y := nI (P.length + 1)) rfl ?_
    refine kp_Pg_21 X U 0 rfl (Nat.le_of_ble_eq_true rfl) kd_Pg_add_46 (fun H locs U => ?_)
    have U : kz_U D q s A [(hg, .inr (3, [.ref ak, .ref al, .ref ah, .int (nI (P.length + 1))])), (ak, .inl (q 0, 81, .inl (upd fk P.length (nI k)))), (al, .inl (q 0, 81, .inl (upd fl P.length (nI a)))), (ah, .inl (q 0, 81, .inl (upd fh P.length hv)))] H locs := U
    exact kz_ev hQ hA X U ((upd fk P.length (nI k), upd fl P.length (nI a), upd fh P.length hv)) (by rw [show (pg_add P (k, a, b)).length = P.length + 1 by simp [pg_add, h6]]) (by rw [hh]; show kz_pg (pg_add P (k, a, b)) _ _ _; rw [show pg_add P (k, a, b) = P ++ [(k, a, b)] from if_pos h6]; exact kz_pg_add hP h6 k a b) kd_Pg_add_49

set_option maxHeartbeats 4000000 in
set_option maxRecDepth 100000 in
theorem cm_Rd_place (l : Launch) (D : va_G) (q : Nat → ClassId) (rd an au ai as_ hg : Nat) (at_ lv len : Nat)  : kz_Mi (S := Unit) l ky_Rd_place kb_Rd_place 1 (some .int) 0 D q [.ref rd] [(rd, .inr (4, [.ref an, .ref au, .ref ai, .int (nI lv), .ref as_, .int (nI len), .int (nI at_), .ref hg]))] (fun r _ => r = nI at_) (fun _ => [(rd, .inr (4, [.ref an, .ref au, .ref ai, .int (nI lv), .ref as_, .int (nI len), .int (nI at_), .ref hg]))]) := by
  intro sz_
  refine kz_go (by decide +kernel) (Nat.le_of_ble_eq_true rfl) ?_
  intro p e s m below meth c ls args A Q H locs hQ hA X U hl
  have hx := X.1
  have hb := X.2.1
  have hl : lv_has ls 1 [(0, .ref rd)] := hl
  refine lv_aload_n hx hb kd_Rd_place_0 rfl (lv_at hl 0 rfl) ?_
  refine kg_Rd_33 X U 0 rfl rfl kd_Rd_place_1 ?_
  exact kz_ei hQ hA X U (()) rfl (rfl) kd_Rd_place_4

set_option maxHeartbeats 4000000 in
set_option maxRecDepth 100000 in
theorem cm_Rd_giveFor (l : Launch) (D : va_G) (q : Nat → ClassId) (rd an au ai as_ hg ho : Nat) (at_ lv len : Nat)  : kz_Mr (S := Unit) l ky_Rd_giveFor kb_Rd_giveFor 3 (some (.object "DerivativeMatcher$Program")) 0 D q [.ref rd, .ref ho] [(rd, .inr (4, [.ref an, .ref au, .ref ai, .int (nI lv), .ref as_, .int (nI len), .int (nI at_), .ref hg]))] hg (fun _ => True) (fun _ => [(rd, .inr (4, [.ref an, .ref au, .ref ai, .int (nI lv), .ref as_, .int (nI len), .int (nI at_), .ref ho]))]) := by
  intro sz_
  refine kz_go (by decide +kernel) (Nat.le_of_ble_eq_true rfl) ?_
  intro p e s m below meth c ls args A Q H locs hQ hA X U hl
  have hx := X.1
  have hb := X.2.1
  have hl : lv_has ls 3 [(0, .ref rd), (1, .ref ho)] := hl
  refine lv_aload_n hx hb kd_Rd_giveFor_0 rfl (lv_at hl 0 rfl) ?_
  refine kg_Rd_39 X U 0 rfl rfl kd_Rd_giveFor_1 ?_
  refine lv_astore_n hx hb kd_Rd_giveFor_4 rfl hl (by decide) rfl (fun ls hl => ?_)
  have hl : lv_has ls 3 [(2, .ref hg), (0, .ref rd), (1, .ref ho)] := hl
  refine lv_aload_n hx hb kd_Rd_giveFor_5 rfl (lv_at hl 1 rfl) ?_
  refine lv_aload_n hx hb kd_Rd_giveFor_6 rfl (lv_at hl 2 rfl) ?_
  refine kp_Rd_39 X U 0 rfl (Nat.le_of_ble_eq_true rfl) kd_Rd_giveFor_7 (fun H locs U => ?_)
  have U : kz_U D q s A [(rd, .inr (4, [.ref an, .ref au, .ref ai, .int (nI lv), .ref as_, .int (nI len), .int (nI at_), .ref ho]))] H locs := U
  refine lv_aload_n hx hb kd_Rd_giveFor_10 rfl (lv_at hl 0 rfl) ?_
  exact kz_er hQ hA X (by first | exact Or.inl ⟨_, rfl⟩ | exact Or.inr ⟨_, rfl⟩) U (()) rfl (trivial) kd_Rd_giveFor_11

set_option maxHeartbeats 4000000 in
set_option maxRecDepth 100000 in
theorem cm_Rd_beginRow (l : Launch) (D : va_G) (q : Nat → ClassId) (rd an au ai as_ hg ak al ah : Nat) (at_ lv len : Nat) (P : List (Nat × Nat × Nat)) (fk fl fh : Nat → Int32) (hP : kz_pg P fk fl fh) : kz_Mv (S := (Nat → Int32) × (Nat → Int32) × (Nat → Int32)) l ky_Rd_beginRow kb_Rd_beginRow 1 1 D q [.ref rd] [(rd, .inr (4, [.ref an, .ref au, .ref ai, .int (nI lv), .ref as_, .int (nI len), .int (nI at_), .ref hg])), (hg, .inr (3, [.ref ak, .ref al, .ref ah, .int (nI P.length)])), (ak, .inl (q 0, 81, .inl fk)), (al, .inl (q 0, 81, .inl fl)), (ah, .inl (q 0, 81, .inl fh))] (fun u => kz_pg (pg_add P (0, 0, 1)) u.1 u.2.1 u.2.2) (fun u => [(rd, .inr (4, [.ref an, .ref au, .ref ai, .int (nI lv), .ref as_, .int (nI len), .int (nI at_), .ref hg])), (hg, .inr (3, [.ref ak, .ref al, .ref ah, .int (nI ((pg_add P (0, 0, 1)).length))])), (ak, .inl (q 0, 81, .inl u.1)), (al, .inl (q 0, 81, .inl u.2.1)), (ah, .inl (q 0, 81, .inl u.2.2))]) := by
  intro sz_
  refine kz_go (by decide +kernel) (Nat.le_of_ble_eq_true rfl) ?_
  intro p e s m below meth c ls args A Q H locs hQ hA X U hl
  have hx := X.1
  have hb := X.2.1
  have hl : lv_has ls 1 [(0, .ref rd)] := hl
  refine lv_aload_n hx hb kd_Rd_beginRow_0 rfl (lv_at hl 0 rfl) ?_
  refine kg_Rd_39 X U 0 rfl rfl kd_Rd_beginRow_1 ?_
  refine kz_ic X 0 kd_Rd_beginRow_4 (by decide) ?_
  refine kz_ic X 0 kd_Rd_beginRow_5 (by decide) ?_
  refine kz_ic X 0 kd_Rd_beginRow_6 (by decide) ?_
  refine kz_cVv (av := [.int (nI 0), .int (nI 0), .int (nI 0)]) (rest := []) (wr := [(rd, .inr (4, [.ref an, .ref au, .ref ai, .int (nI lv), .ref as_, .int (nI len), .int (nI at_), .ref hg]))]) X U hl.1 (cm_Pg_addP l D q hg ak al ah 0 0 1 (nI 0) (P) fk fl fh (pk_m1 0).symm hP) (by decide) (by decide) ⟨by decide, by decide⟩ tb_250 tb_123 tb_124 1 rfl rfl tb_8 tb_125 kq_Pg_add [1, 2, 3, 4] [0] (by decide) rfl rfl (by decide) (by decide) rfl (Nat.le_of_ble_eq_true rfl) kd_Rd_beginRow_7 (fun u H locs hu U => ?_)
  have U : kz_U D q s A [(rd, .inr (4, [.ref an, .ref au, .ref ai, .int (nI lv), .ref as_, .int (nI len), .int (nI at_), .ref hg])), (hg, .inr (3, [.ref ak, .ref al, .ref ah, .int (nI ((pg_add P (0, 0, 1)).length))])), (ak, .inl (q 0, 81, .inl u.1)), (al, .inl (q 0, 81, .inl u.2.1)), (ah, .inl (q 0, 81, .inl u.2.2))] H locs := U
  exact kz_ev hQ hA X U u rfl (hu) kd_Rd_beginRow_10

set_option maxHeartbeats 4000000 in
set_option maxRecDepth 100000 in
theorem cm_Rd_beginLevel (l : Launch) (D : va_G) (q : Nat → ClassId) (rd an au ai as_ hg ak al ah : Nat) (at_ lv len : Nat) (no src : Nat → Nat) (uo io : Nat → Bool) (P : List (Nat × Nat × Nat)) (fk fl fh : Nat → Int32) (hlv : lv ≤ 40) (hlen : len ≤ 40) (hat : at_ ≤ len) (hsrc : ∀ j, src j < 65536) (hno : True) (hP : kz_pg P fk fl fh) : kz_Mv (S := (Nat → Int32) × (Nat → Int32) × (Nat → Int32)) l ky_Rd_beginLevel kb_Rd_beginLevel 1 2 D q [.ref rd] [(rd, .inr (4, [.ref an, .ref au, .ref ai, .int (nI lv), .ref as_, .int (nI len), .int (nI at_), .ref hg])), (an, .inl (q 0, 41, .inl (fun x_ => nI (no x_)))), (au, .inl (q 2, 41, .inl (fun x_ => nB (uo x_)))), (ai, .inl (q 2, 41, .inl (fun x_ => nB (io x_)))), (as_, .inl (q 1, 40, .inl (fun x_ => nI (src x_)))), (hg, .inr (3, [.ref ak, .ref al, .ref ah, .int (nI P.length)])), (ak, .inl (q 0, 81, .inl fk)), (al, .inl (q 0, 81, .inl fl)), (ah, .inl (q 0, 81, .inl fh))] (fun u => kz_pg (pg_add P (0, 0, 1)) u.1 u.2.1 u.2.2) (fun u => [(rd, .inr (4, [.ref an, .ref au, .ref ai, .int (nI lv), .ref as_, .int (nI len), .int (nI at_), .ref hg])), (an, .inl (q 0, 41, .inl (fun x_ => nI ((va_up no lv 0) x_)))), (au, .inl (q 2, 41, .inl (fun x_ => nB ((va_up uo lv false) x_)))), (ai, .inl (q 2, 41, .inl (fun x_ => nB ((va_up io lv false) x_)))), (as_, .inl (q 1, 40, .inl (fun x_ => nI (src x_)))), (hg, .inr (3, [.ref ak, .ref al, .ref ah, .int (nI ((pg_add P (0, 0, 1)).length))])), (ak, .inl (q 0, 81, .inl u.1)), (al, .inl (q 0, 81, .inl u.2.1)), (ah, .inl (q 0, 81, .inl u.2.2))]) := by
  intro sz_
  refine kz_go (by decide +kernel) (Nat.le_of_ble_eq_true rfl) ?_
  intro p e s m below meth c ls args A Q H locs hQ hA X U hl
  have hx := X.1
  have hb := X.2.1
  have hl : lv_has ls 1 [(0, .ref rd)] := hl
  refine lv_aload_n hx hb kd_Rd_beginLevel_0 rfl (lv_at hl 0 rfl) ?_
  refine kg_Rd_9 X U 0 rfl rfl kd_Rd_beginLevel_1 ?_
  refine lv_aload_n hx hb kd_Rd_beginLevel_4 rfl (lv_at hl 0 rfl) ?_
  refine kg_Rd_22 X U 0 rfl rfl kd_Rd_beginLevel_5 ?_
  refine kz_ic X 0 kd_Rd_beginLevel_8 (by decide) ?_
  refine kz_iast (k := lv) X U 1 rfl (by omega) (by omega) kd_Rd_beginLevel_9 (fun H locs U => ?_)
  rw [kz_updN] at U
  have U : kz_U D q s A [(rd, .inr (4, [.ref an, .ref au, .ref ai, .int (nI lv), .ref as_, .int (nI len), .int (nI at_), .ref hg])), (an, .inl (q 0, 41, .inl (fun x_ => nI ((va_up no lv 0) x_)))), (au, .inl (q 2, 41, .inl (fun x_ => nB (uo x_)))), (ai, .inl (q 2, 41, .inl (fun x_ => nB (io x_)))), (as_, .inl (q 1, 40, .inl (fun x_ => nI (src x_)))), (hg, .inr (3, [.ref ak, .ref al, .ref ah, .int (nI P.length)])), (ak, .inl (q 0, 81, .inl fk)), (al, .inl (q 0, 81, .inl fl)), (ah, .inl (q 0, 81, .inl fh))] H locs := U
  refine lv_aload_n hx hb kd_Rd_beginLevel_10 rfl (lv_at hl 0 rfl) ?_
  refine kg_Rd_15 X U 0 rfl rfl kd_Rd_beginLevel_11 ?_
  refine lv_aload_n hx hb kd_Rd_beginLevel_14 rfl (lv_at hl 0 rfl) ?_
  refine kg_Rd_22 X U 0 rfl rfl kd_Rd_beginLevel_15 ?_
  refine kz_ic X 0 kd_Rd_beginLevel_18 (by decide) ?_
  refine kz_top (y := nB false) rfl ?_
  refine kz_zast (k := lv) X U 2 rfl (by omega) (by omega) kd_Rd_beginLevel_19 (fun H locs U => ?_)
  rw [kz_updB] at U
  have U : kz_U D q s A [(rd, .inr (4, [.ref an, .ref au, .ref ai, .int (nI lv), .ref as_, .int (nI len), .int (nI at_), .ref hg])), (an, .inl (q 0, 41, .inl (fun x_ => nI ((va_up no lv 0) x_)))), (au, .inl (q 2, 41, .inl (fun x_ => nB ((va_up uo lv false) x_)))), (ai, .inl (q 2, 41, .inl (fun x_ => nB (io x_)))), (as_, .inl (q 1, 40, .inl (fun x_ => nI (src x_)))), (hg, .inr (3, [.ref ak, .ref al, .ref ah, .int (nI P.length)])), (ak, .inl (q 0, 81, .inl fk)), (al, .inl (q 0, 81, .inl fl)), (ah, .inl (q 0, 81, .inl fh))] H locs := U
  refine lv_aload_n hx hb kd_Rd_beginLevel_20 rfl (lv_at hl 0 rfl) ?_
  refine kg_Rd_19 X U 0 rfl rfl kd_Rd_beginLevel_21 ?_
  refine lv_aload_n hx hb kd_Rd_beginLevel_24 rfl (lv_at hl 0 rfl) ?_
  refine kg_Rd_22 X U 0 rfl rfl kd_Rd_beginLevel_25 ?_
  refine kz_ic X 0 kd_Rd_beginLevel_28 (by decide) ?_
  refine kz_top (y := nB false) rfl ?_
  refine kz_zast (k := lv) X U 3 rfl (by omega) (by omega) kd_Rd_beginLevel_29 (fun H locs U => ?_)
  rw [kz_updB] at U
  have U : kz_U D q s A [(rd, .inr (4, [.ref an, .ref au, .ref ai, .int (nI lv), .ref as_, .int (nI len), .int (nI at_), .ref hg])), (an, .inl (q 0, 41, .inl (fun x_ => nI ((va_up no lv 0) x_)))), (au, .inl (q 2, 41, .inl (fun x_ => nB ((va_up uo lv false) x_)))), (ai, .inl (q 2, 41, .inl (fun x_ => nB ((va_up io lv false) x_)))), (as_, .inl (q 1, 40, .inl (fun x_ => nI (src x_)))), (hg, .inr (3, [.ref ak, .ref al, .ref ah, .int (nI P.length)])), (ak, .inl (q 0, 81, .inl fk)), (al, .inl (q 0, 81, .inl fl)), (ah, .inl (q 0, 81, .inl fh))] H locs := U
  refine lv_aload_n hx hb kd_Rd_beginLevel_30 rfl (lv_at hl 0 rfl) ?_
  refine kz_cVv (av := []) (rest := []) (wr := [(an, .inl (q 0, 41, .inl (fun x_ => nI ((va_up no lv 0) x_)))), (au, .inl (q 2, 41, .inl (fun x_ => nB ((va_up uo lv false) x_)))), (ai, .inl (q 2, 41, .inl (fun x_ => nB ((va_up io lv false) x_)))), (as_, .inl (q 1, 40, .inl (fun x_ => nI (src x_))))]) X U hl.1 (cm_Rd_beginRow l D q rd an au ai as_ hg ak al ah at_ lv len P fk fl fh hP) (by decide) (by decide) ⟨by decide, by decide⟩ tb_246 tb_248 tb_s1 0 rfl rfl tb_9 tb_249 kq_Rd_beginRow [0, 5, 6, 7, 8] [1, 2, 3, 4] (by decide) rfl rfl (by decide) (by decide) rfl (Nat.le_of_ble_eq_true rfl) kd_Rd_beginLevel_31 (fun u H locs hu U => ?_)
  have U : kz_U D q s A [(rd, .inr (4, [.ref an, .ref au, .ref ai, .int (nI lv), .ref as_, .int (nI len), .int (nI at_), .ref hg])), (an, .inl (q 0, 41, .inl (fun x_ => nI ((va_up no lv 0) x_)))), (au, .inl (q 2, 41, .inl (fun x_ => nB ((va_up uo lv false) x_)))), (ai, .inl (q 2, 41, .inl (fun x_ => nB ((va_up io lv false) x_)))), (as_, .inl (q 1, 40, .inl (fun x_ => nI (src x_)))), (hg, .inr (3, [.ref ak, .ref al, .ref ah, .int (nI ((pg_add P (0, 0, 1)).length))])), (ak, .inl (q 0, 81, .inl u.1)), (al, .inl (q 0, 81, .inl u.2.1)), (ah, .inl (q 0, 81, .inl u.2.2))] H locs := U.sub [4, 0, 1, 2, 3, 5, 6, 7, 8] (by decide) rfl
  exact kz_ev hQ hA X U u rfl (hu) kd_Rd_beginLevel_34

def rd_eI (io : Nat → Bool) (lv : Nat) (P : List (Nat × Nat × Nat)) : List (Nat × Nat × Nat) := if io lv = true then pg_add P (4, 0, 1) else P
def rd_eU (uo io : Nat → Bool) (lv : Nat) (P : List (Nat × Nat × Nat)) : List (Nat × Nat × Nat) := if uo lv = true then pg_add (rd_eI io lv P) (3, 0, 1) else rd_eI io lv P

set_option maxHeartbeats 4000000 in
set_option maxRecDepth 100000 in
theorem cm_Rd_endIntersection (l : Launch) (D : va_G) (q : Nat → ClassId) (rd an au ai as_ hg ak al ah : Nat) (at_ lv len : Nat) (no src : Nat → Nat) (uo io : Nat → Bool) (P : List (Nat × Nat × Nat)) (fk fl fh : Nat → Int32) (hlv : lv ≤ 40) (hlen : len ≤ 40) (hat : at_ ≤ len) (hsrc : ∀ j, src j < 65536) (hno : True) (hP : kz_pg P fk fl fh) : kz_Mv (S := (Nat → Int32) × (Nat → Int32) × (Nat → Int32)) l ky_Rd_endIntersection kb_Rd_endIntersection 1 1 D q [.ref rd] [(rd, .inr (4, [.ref an, .ref au, .ref ai, .int (nI lv), .ref as_, .int (nI len), .int (nI at_), .ref hg])), (an, .inl (q 0, 41, .inl (fun x_ => nI (no x_)))), (au, .inl (q 2, 41, .inl (fun x_ => nB (uo x_)))), (ai, .inl (q 2, 41, .inl (fun x_ => nB (io x_)))), (as_, .inl (q 1, 40, .inl (fun x_ => nI (src x_)))), (hg, .inr (3, [.ref ak, .ref al, .ref ah, .int (nI P.length)])), (ak, .inl (q 0, 81, .inl fk)), (al, .inl (q 0, 81, .inl fl)), (ah, .inl (q 0, 81, .inl fh))] (fun u => kz_pg (rd_eI io lv P) u.1 u.2.1 u.2.2) (fun u => [(rd, .inr (4, [.ref an, .ref au, .ref ai, .int (nI lv), .ref as_, .int (nI len), .int (nI at_), .ref hg])), (an, .inl (q 0, 41, .inl (fun x_ => nI (no x_)))), (au, .inl (q 2, 41, .inl (fun x_ => nB (uo x_)))), (ai, .inl (q 2, 41, .inl (fun x_ => nB (io x_)))), (as_, .inl (q 1, 40, .inl (fun x_ => nI (src x_)))), (hg, .inr (3, [.ref ak, .ref al, .ref ah, .int (nI ((rd_eI io lv P).length))])), (ak, .inl (q 0, 81, .inl u.1)), (al, .inl (q 0, 81, .inl u.2.1)), (ah, .inl (q 0, 81, .inl u.2.2))]) := by
  intro sz_
  refine kz_go (by decide +kernel) (Nat.le_of_ble_eq_true rfl) ?_
  intro p e s m below meth c ls args A Q H locs hQ hA X U hl
  have hx := X.1
  have hb := X.2.1
  have hl : lv_has ls 1 [(0, .ref rd)] := hl
  refine lv_aload_n hx hb kd_Rd_endIntersection_0 rfl (lv_at hl 0 rfl) ?_
  refine kg_Rd_19 X U 0 rfl rfl kd_Rd_endIntersection_1 ?_
  refine lv_aload_n hx hb kd_Rd_endIntersection_4 rfl (lv_at hl 0 rfl) ?_
  refine kg_Rd_22 X U 0 rfl rfl kd_Rd_endIntersection_5 ?_
  refine kz_zald (k := lv) X U 3 rfl (by omega) (by omega) kd_Rd_endIntersection_8 ?_
  refine kz_top (y := nB (io lv)) rfl ?_
  refine kz_ifeqB X kd_Rd_endIntersection_9 rfl (fun h9 => ?_) (fun h9 => ?_)
  · exact kz_ev hQ hA X U ((fk, fl, fh)) (by rw [show rd_eI io lv P = P from if_neg (by rw [h9]; decide)]) (by rw [show rd_eI io lv P = P from if_neg (by rw [h9]; decide)]; exact hP) kd_Rd_endIntersection_22
  · refine lv_aload_n hx hb kd_Rd_endIntersection_12 rfl (lv_at hl 0 rfl) ?_
    refine kg_Rd_39 X U 0 rfl rfl kd_Rd_endIntersection_13 ?_
    refine kz_ic X 4 kd_Rd_endIntersection_16 (by decide) ?_
    refine kz_ic X 0 kd_Rd_endIntersection_17 (by decide) ?_
    refine kz_ic X 0 kd_Rd_endIntersection_18 (by decide) ?_
    refine kz_cVv (av := [.int (nI 4), .int (nI 0), .int (nI 0)]) (rest := []) (wr := [(rd, .inr (4, [.ref an, .ref au, .ref ai, .int (nI lv), .ref as_, .int (nI len), .int (nI at_), .ref hg])), (an, .inl (q 0, 41, .inl (fun x_ => nI (no x_)))), (au, .inl (q 2, 41, .inl (fun x_ => nB (uo x_)))), (ai, .inl (q 2, 41, .inl (fun x_ => nB (io x_)))), (as_, .inl (q 1, 40, .inl (fun x_ => nI (src x_))))]) X U hl.1 (cm_Pg_addP l D q hg ak al ah 4 0 1 (nI 0) (P) fk fl fh (pk_m1 0).symm hP) (by decide) (by decide) ⟨by decide, by decide⟩ tb_250 tb_123 tb_124 5 rfl rfl tb_8 tb_125 kq_Pg_add [5, 6, 7, 8] [0, 1, 2, 3, 4] (by decide) rfl rfl (by decide) (by decide) rfl (Nat.le_of_ble_eq_true rfl) kd_Rd_endIntersection_19 (fun u H locs hu U => ?_)
    have U : kz_U D q s A [(rd, .inr (4, [.ref an, .ref au, .ref ai, .int (nI lv), .ref as_, .int (nI len), .int (nI at_), .ref hg])), (an, .inl (q 0, 41, .inl (fun x_ => nI (no x_)))), (au, .inl (q 2, 41, .inl (fun x_ => nB (uo x_)))), (ai, .inl (q 2, 41, .inl (fun x_ => nB (io x_)))), (as_, .inl (q 1, 40, .inl (fun x_ => nI (src x_)))), (hg, .inr (3, [.ref ak, .ref al, .ref ah, .int (nI ((pg_add P (4, 0, 1)).length))])), (ak, .inl (q 0, 81, .inl u.1)), (al, .inl (q 0, 81, .inl u.2.1)), (ah, .inl (q 0, 81, .inl u.2.2))] H locs := U
    exact kz_ev hQ hA X U u (by rw [show rd_eI io lv P = pg_add P (4, 0, 1) from if_pos h9]) (by rw [show rd_eI io lv P = pg_add P (4, 0, 1) from if_pos h9]; exact hu) kd_Rd_endIntersection_22

set_option maxHeartbeats 4000000 in
set_option maxRecDepth 100000 in
theorem cm_Rd_endUnion (l : Launch) (D : va_G) (q : Nat → ClassId) (rd an au ai as_ hg ak al ah : Nat) (at_ lv len : Nat) (no src : Nat → Nat) (uo io : Nat → Bool) (P : List (Nat × Nat × Nat)) (fk fl fh : Nat → Int32) (hlv : lv ≤ 40) (hlen : len ≤ 40) (hat : at_ ≤ len) (hsrc : ∀ j, src j < 65536) (hno : True) (hP : kz_pg P fk fl fh) : kz_Mv (S := (Nat → Int32) × (Nat → Int32) × (Nat → Int32)) l ky_Rd_endUnion kb_Rd_endUnion 1 2 D q [.ref rd] [(rd, .inr (4, [.ref an, .ref au, .ref ai, .int (nI lv), .ref as_, .int (nI len), .int (nI at_), .ref hg])), (an, .inl (q 0, 41, .inl (fun x_ => nI (no x_)))), (au, .inl (q 2, 41, .inl (fun x_ => nB (uo x_)))), (ai, .inl (q 2, 41, .inl (fun x_ => nB (io x_)))), (as_, .inl (q 1, 40, .inl (fun x_ => nI (src x_)))), (hg, .inr (3, [.ref ak, .ref al, .ref ah, .int (nI P.length)])), (ak, .inl (q 0, 81, .inl fk)), (al, .inl (q 0, 81, .inl fl)), (ah, .inl (q 0, 81, .inl fh))] (fun u => kz_pg (rd_eU uo io lv P) u.1 u.2.1 u.2.2) (fun u => [(rd, .inr (4, [.ref an, .ref au, .ref ai, .int (nI lv), .ref as_, .int (nI len), .int (nI at_), .ref hg])), (an, .inl (q 0, 41, .inl (fun x_ => nI (no x_)))), (au, .inl (q 2, 41, .inl (fun x_ => nB (uo x_)))), (ai, .inl (q 2, 41, .inl (fun x_ => nB (io x_)))), (as_, .inl (q 1, 40, .inl (fun x_ => nI (src x_)))), (hg, .inr (3, [.ref ak, .ref al, .ref ah, .int (nI ((rd_eU uo io lv P).length))])), (ak, .inl (q 0, 81, .inl u.1)), (al, .inl (q 0, 81, .inl u.2.1)), (ah, .inl (q 0, 81, .inl u.2.2))]) := by
  intro sz_
  refine kz_go (by decide +kernel) (Nat.le_of_ble_eq_true rfl) ?_
  intro p e s m below meth c ls args A Q H locs hQ hA X U hl
  have hx := X.1
  have hb := X.2.1
  have hl : lv_has ls 1 [(0, .ref rd)] := hl
  refine lv_aload_n hx hb kd_Rd_endUnion_0 rfl (lv_at hl 0 rfl) ?_
  refine kz_cVv (av := []) (rest := []) (wr := []) X U hl.1 (cm_Rd_endIntersection l D q rd an au ai as_ hg ak al ah at_ lv len no src uo io P fk fl fh hlv hlen hat hsrc hno hP) (by decide) (by decide) ⟨by decide, by decide⟩ tb_263 tb_265 tb_s5 0 rfl rfl tb_9 tb_266 kq_Rd_endIntersection [0, 1, 2, 3, 4, 5, 6, 7, 8] [] (by decide) rfl rfl (by decide) (by decide) rfl (Nat.le_of_ble_eq_true rfl) kd_Rd_endUnion_1 (fun v H locs hv U => ?_)
  have U : kz_U D q s A [(rd, .inr (4, [.ref an, .ref au, .ref ai, .int (nI lv), .ref as_, .int (nI len), .int (nI at_), .ref hg])), (an, .inl (q 0, 41, .inl (fun x_ => nI (no x_)))), (au, .inl (q 2, 41, .inl (fun x_ => nB (uo x_)))), (ai, .inl (q 2, 41, .inl (fun x_ => nB (io x_)))), (as_, .inl (q 1, 40, .inl (fun x_ => nI (src x_)))), (hg, .inr (3, [.ref ak, .ref al, .ref ah, .int (nI ((rd_eI io lv P).length))])), (ak, .inl (q 0, 81, .inl v.1)), (al, .inl (q 0, 81, .inl v.2.1)), (ah, .inl (q 0, 81, .inl v.2.2))] H locs := U
  refine lv_aload_n hx hb kd_Rd_endUnion_4 rfl (lv_at hl 0 rfl) ?_
  refine kg_Rd_15 X U 0 rfl rfl kd_Rd_endUnion_5 ?_
  refine lv_aload_n hx hb kd_Rd_endUnion_8 rfl (lv_at hl 0 rfl) ?_
  refine kg_Rd_22 X U 0 rfl rfl kd_Rd_endUnion_9 ?_
  refine kz_zald (k := lv) X U 2 rfl (by omega) (by omega) kd_Rd_endUnion_12 ?_
  refine kz_top (y := nB (uo lv)) rfl ?_
  refine kz_ifeqB X kd_Rd_endUnion_13 rfl (fun h13 => ?_) (fun h13 => ?_)
  · exact kz_ev hQ hA X U v (by rw [show rd_eU uo io lv P = rd_eI io lv P from if_neg (by rw [h13]; decide)]) (by rw [show rd_eU uo io lv P = rd_eI io lv P from if_neg (by rw [h13]; decide)]; exact hv) kd_Rd_endUnion_26
  · refine lv_aload_n hx hb kd_Rd_endUnion_16 rfl (lv_at hl 0 rfl) ?_
    refine kg_Rd_39 X U 0 rfl rfl kd_Rd_endUnion_17 ?_
    refine kz_ic X 3 kd_Rd_endUnion_20 (by decide) ?_
    refine kz_ic X 0 kd_Rd_endUnion_21 (by decide) ?_
    refine kz_ic X 0 kd_Rd_endUnion_22 (by decide) ?_
    refine kz_cVv (av := [.int (nI 3), .int (nI 0), .int (nI 0)]) (rest := []) (wr := [(rd, .inr (4, [.ref an, .ref au, .ref ai, .int (nI lv), .ref as_, .int (nI len), .int (nI at_), .ref hg])), (an, .inl (q 0, 41, .inl (fun x_ => nI (no x_)))), (au, .inl (q 2, 41, .inl (fun x_ => nB (uo x_)))), (ai, .inl (q 2, 41, .inl (fun x_ => nB (io x_)))), (as_, .inl (q 1, 40, .inl (fun x_ => nI (src x_))))]) X U hl.1 (cm_Pg_addP l D q hg ak al ah 3 0 1 (nI 0) (rd_eI io lv P) v.1 v.2.1 v.2.2 (pk_m1 0).symm hv) (by decide) (by decide) ⟨by decide, by decide⟩ tb_250 tb_123 tb_124 5 rfl rfl tb_8 tb_125 kq_Pg_add [5, 6, 7, 8] [0, 1, 2, 3, 4] (by decide) rfl rfl (by decide) (by decide) rfl (Nat.le_of_ble_eq_true rfl) kd_Rd_endUnion_23 (fun u H locs hu U => ?_)
    have U : kz_U D q s A [(rd, .inr (4, [.ref an, .ref au, .ref ai, .int (nI lv), .ref as_, .int (nI len), .int (nI at_), .ref hg])), (an, .inl (q 0, 41, .inl (fun x_ => nI (no x_)))), (au, .inl (q 2, 41, .inl (fun x_ => nB (uo x_)))), (ai, .inl (q 2, 41, .inl (fun x_ => nB (io x_)))), (as_, .inl (q 1, 40, .inl (fun x_ => nI (src x_)))), (hg, .inr (3, [.ref ak, .ref al, .ref ah, .int (nI ((pg_add (rd_eI io lv P) (3, 0, 1)).length))])), (ak, .inl (q 0, 81, .inl u.1)), (al, .inl (q 0, 81, .inl u.2.1)), (ah, .inl (q 0, 81, .inl u.2.2))] H locs := U
    exact kz_ev hQ hA X U u (by rw [show rd_eU uo io lv P = pg_add (rd_eI io lv P) (3, 0, 1) from if_pos h13]) (by rw [show rd_eU uo io lv P = pg_add (rd_eI io lv P) (3, 0, 1) from if_pos h13]; exact hu) kd_Rd_endUnion_26

def rd_mk (c : Nat) : Bool := decide (c = 42 ∨ c = 43 ∨ c = 63 ∨ c = 123)

set_option maxHeartbeats 4000000 in
set_option maxRecDepth 100000 in
theorem cm_Rd_isMark (l : Launch) (D : va_G) (q : Nat → ClassId) (c_ : Nat) (hc : c_ < 65536) : kz_Mi (S := Unit) l ky_Rd_isMark kb_Rd_isMark 1 (some .boolean) 0 D q [.int (nI c_)] [] (fun r _ => r = nB (rd_mk c_)) (fun _ => []) := by
  intro sz_
  refine kz_go (by decide +kernel) (Nat.le_of_ble_eq_true rfl) ?_
  intro p e s m below meth c ls args A Q H locs hQ hA X U hl
  have hx := X.1
  have hb := X.2.1
  have hl : lv_has ls 1 [(0, .int (nI c_))] := hl
  refine lv_iload_n hx hb kd_Rd_isMark_0 rfl (lv_at hl 0 rfl) ?_
  refine kz_bp X 42 kd_Rd_isMark_1 (by decide) ?_
  refine kz_iceq X (by omega) (by omega) kd_Rd_isMark_3 rfl (fun h3 => ?_) (fun h3 => ?_)
  · refine kz_ic X 1 kd_Rd_isMark_24 (by decide) ?_
    refine lv_goto hx hb kd_Rd_isMark_25 rfl ?_
    refine kz_top (y := nB true) rfl ?_
    exact kz_ez hQ hA X U (()) rfl (by unfold rd_mk; first | rw [decide_eq_true (by omega)] | rw [decide_eq_false (by omega)]) kd_Rd_isMark_29
  · refine lv_iload_n hx hb kd_Rd_isMark_6 rfl (lv_at hl 0 rfl) ?_
    refine kz_bp X 43 kd_Rd_isMark_7 (by decide) ?_
    refine kz_iceq X (by omega) (by omega) kd_Rd_isMark_9 rfl (fun h9 => ?_) (fun h9 => ?_)
    · refine kz_ic X 1 kd_Rd_isMark_24 (by decide) ?_
      refine lv_goto hx hb kd_Rd_isMark_25 rfl ?_
      refine kz_top (y := nB true) rfl ?_
      exact kz_ez hQ hA X U (()) rfl (by unfold rd_mk; first | rw [decide_eq_true (by omega)] | rw [decide_eq_false (by omega)]) kd_Rd_isMark_29
    · refine lv_iload_n hx hb kd_Rd_isMark_12 rfl (lv_at hl 0 rfl) ?_
      refine kz_bp X 63 kd_Rd_isMark_13 (by decide) ?_
      refine kz_iceq X (by omega) (by omega) kd_Rd_isMark_15 rfl (fun h15 => ?_) (fun h15 => ?_)
      · refine kz_ic X 1 kd_Rd_isMark_24 (by decide) ?_
        refine lv_goto hx hb kd_Rd_isMark_25 rfl ?_
        refine kz_top (y := nB true) rfl ?_
        exact kz_ez hQ hA X U (()) rfl (by unfold rd_mk; first | rw [decide_eq_true (by omega)] | rw [decide_eq_false (by omega)]) kd_Rd_isMark_29
      · refine lv_iload_n hx hb kd_Rd_isMark_18 rfl (lv_at hl 0 rfl) ?_
        refine kz_bp X 123 kd_Rd_isMark_19 (by decide) ?_
        refine kz_icne X (by omega) (by omega) kd_Rd_isMark_21 rfl (fun h21 => ?_) (fun h21 => ?_)
        · refine kz_ic X 0 kd_Rd_isMark_28 (by decide) ?_
          refine kz_top (y := nB false) rfl ?_
          exact kz_ez hQ hA X U (()) rfl (by unfold rd_mk; first | rw [decide_eq_true (by omega)] | rw [decide_eq_false (by omega)]) kd_Rd_isMark_29
        · refine kz_ic X 1 kd_Rd_isMark_24 (by decide) ?_
          refine lv_goto hx hb kd_Rd_isMark_25 rfl ?_
          refine kz_top (y := nB true) rfl ?_
          exact kz_ez hQ hA X U (()) rfl (by unfold rd_mk; first | rw [decide_eq_true (by omega)] | rw [decide_eq_false (by omega)]) kd_Rd_isMark_29

set_option maxHeartbeats 4000000 in
set_option maxRecDepth 100000 in
theorem cm_Rd_isNext (l : Launch) (D : va_G) (q : Nat → ClassId) (rd an au ai as_ hg : Nat) (at_ lv len c_ : Nat) (src : Nat → Nat) (hlen : len ≤ 40) (hsrc : ∀ j, src j < 65536) (hc : c_ < 65536) (hat : at_ ≤ len) : kz_Mi (S := Unit) l ky_Rd_isNext kb_Rd_isNext 2 (some .boolean) 0 D q [.ref rd, .int (nI c_)] [(rd, .inr (4, [.ref an, .ref au, .ref ai, .int (nI lv), .ref as_, .int (nI len), .int (nI at_), .ref hg])), (as_, .inl (q 1, 40, .inl (fun x_ => nI (src x_))))] (fun r _ => r = nB (decide (at_ < len ∧ src at_ = c_))) (fun _ => [(rd, .inr (4, [.ref an, .ref au, .ref ai, .int (nI lv), .ref as_, .int (nI len), .int (nI at_), .ref hg])), (as_, .inl (q 1, 40, .inl (fun x_ => nI (src x_))))]) := by
  intro sz_
  refine kz_go (by decide +kernel) (Nat.le_of_ble_eq_true rfl) ?_
  intro p e s m below meth c ls args A Q H locs hQ hA X U hl
  have hx := X.1
  have hb := X.2.1
  have hl : lv_has ls 2 [(0, .ref rd), (1, .int (nI c_))] := hl
  refine lv_aload_n hx hb kd_Rd_isNext_0 rfl (lv_at hl 0 rfl) ?_
  refine kg_Rd_33 X U 0 rfl rfl kd_Rd_isNext_1 ?_
  refine lv_aload_n hx hb kd_Rd_isNext_4 rfl (lv_at hl 0 rfl) ?_
  refine kg_Rd_30 X U 0 rfl rfl kd_Rd_isNext_5 ?_
  refine kz_icge X (by first | omega | (have := hsrc at_; omega)) (by first | omega | (have := hsrc at_; omega)) kd_Rd_isNext_8 rfl (fun h8 => ?_) (fun h8 => ?_)
  · refine kz_ic X 0 kd_Rd_isNext_28 (by decide) ?_
    refine kz_top (y := nB false) rfl ?_
    exact kz_ez hQ hA X U (()) rfl (by first | rw [decide_eq_true (by omega)] | rw [decide_eq_false (by omega)]) kd_Rd_isNext_29
  · refine lv_aload_n hx hb kd_Rd_isNext_11 rfl (lv_at hl 0 rfl) ?_
    refine kg_Rd_26 X U 0 rfl rfl kd_Rd_isNext_12 ?_
    refine lv_aload_n hx hb kd_Rd_isNext_15 rfl (lv_at hl 0 rfl) ?_
    refine kg_Rd_33 X U 0 rfl rfl kd_Rd_isNext_16 ?_
    refine kz_cald (k := at_) X U 1 rfl (by omega) (by omega) kd_Rd_isNext_19 ?_
    refine kz_top (y := nI (src at_)) rfl ?_
    refine lv_iload_n hx hb kd_Rd_isNext_20 rfl (lv_at hl 1 rfl) ?_
    refine kz_icne X (by first | omega | (have := hsrc at_; omega)) (by first | omega | (have := hsrc at_; omega)) kd_Rd_isNext_21 rfl (fun h21 => ?_) (fun h21 => ?_)
    · refine kz_ic X 0 kd_Rd_isNext_28 (by decide) ?_
      refine kz_top (y := nB false) rfl ?_
      exact kz_ez hQ hA X U (()) rfl (by first | rw [decide_eq_true (by omega)] | rw [decide_eq_false (by omega)]) kd_Rd_isNext_29
    · refine kz_ic X 1 kd_Rd_isNext_24 (by decide) ?_
      refine lv_goto hx hb kd_Rd_isNext_25 rfl ?_
      refine kz_top (y := nB true) rfl ?_
      exact kz_ez hQ hA X U (()) rfl (by first | rw [decide_eq_true (by omega)] | rw [decide_eq_false (by omega)]) kd_Rd_isNext_29

set_option maxHeartbeats 4000000 in
set_option maxRecDepth 100000 in
theorem cm_Rd_isDigitFrom (l : Launch) (D : va_G) (q : Nat → ClassId) (rd an au ai as_ hg : Nat) (at_ lv len c_ : Nat) (src : Nat → Nat) (hlen : len ≤ 40) (hsrc : ∀ j, src j < 65536) (hc : c_ < 65536) (hat : at_ ≤ len) : kz_Mi (S := Unit) l ky_Rd_isDigitFrom kb_Rd_isDigitFrom 2 (some .boolean) 0 D q [.ref rd, .int (nI c_)] [(rd, .inr (4, [.ref an, .ref au, .ref ai, .int (nI lv), .ref as_, .int (nI len), .int (nI at_), .ref hg])), (as_, .inl (q 1, 40, .inl (fun x_ => nI (src x_))))] (fun r _ => r = nB (decide (at_ < len ∧ c_ ≤ src at_ ∧ src at_ ≤ 57))) (fun _ => [(rd, .inr (4, [.ref an, .ref au, .ref ai, .int (nI lv), .ref as_, .int (nI len), .int (nI at_), .ref hg])), (as_, .inl (q 1, 40, .inl (fun x_ => nI (src x_))))]) := by
  intro sz_
  refine kz_go (by decide +kernel) (Nat.le_of_ble_eq_true rfl) ?_
  intro p e s m below meth c ls args A Q H locs hQ hA X U hl
  have hx := X.1
  have hb := X.2.1
  have hl : lv_has ls 2 [(0, .ref rd), (1, .int (nI c_))] := hl
  refine lv_aload_n hx hb kd_Rd_isDigitFrom_0 rfl (lv_at hl 0 rfl) ?_
  refine kg_Rd_33 X U 0 rfl rfl kd_Rd_isDigitFrom_1 ?_
  refine lv_aload_n hx hb kd_Rd_isDigitFrom_4 rfl (lv_at hl 0 rfl) ?_
  refine kg_Rd_30 X U 0 rfl rfl kd_Rd_isDigitFrom_5 ?_
  refine kz_icge X (by first | omega | (have := hsrc at_; omega)) (by first | omega | (have := hsrc at_; omega)) kd_Rd_isDigitFrom_8 rfl (fun h8 => ?_) (fun h8 => ?_)
  · refine kz_ic X 0 kd_Rd_isDigitFrom_42 (by decide) ?_
    refine kz_top (y := nB false) rfl ?_
    exact kz_ez hQ hA X U (()) rfl (by first | rw [decide_eq_true (by omega)] | rw [decide_eq_false (by omega)]) kd_Rd_isDigitFrom_43
  · refine lv_aload_n hx hb kd_Rd_isDigitFrom_11 rfl (lv_at hl 0 rfl) ?_
    refine kg_Rd_26 X U 0 rfl rfl kd_Rd_isDigitFrom_12 ?_
    refine lv_aload_n hx hb kd_Rd_isDigitFrom_15 rfl (lv_at hl 0 rfl) ?_
    refine kg_Rd_33 X U 0 rfl rfl kd_Rd_isDigitFrom_16 ?_
    refine kz_cald (k := at_) X U 1 rfl (by omega) (by omega) kd_Rd_isDigitFrom_19 ?_
    refine kz_top (y := nI (src at_)) rfl ?_
    refine lv_iload_n hx hb kd_Rd_isDigitFrom_20 rfl (lv_at hl 1 rfl) ?_
    refine kz_iclt X (by first | omega | (have := hsrc at_; omega)) (by first | omega | (have := hsrc at_; omega)) kd_Rd_isDigitFrom_21 rfl (fun h21 => ?_) (fun h21 => ?_)
    · refine kz_ic X 0 kd_Rd_isDigitFrom_42 (by decide) ?_
      refine kz_top (y := nB false) rfl ?_
      exact kz_ez hQ hA X U (()) rfl (by first | rw [decide_eq_true (by omega)] | rw [decide_eq_false (by omega)]) kd_Rd_isDigitFrom_43
    · refine lv_aload_n hx hb kd_Rd_isDigitFrom_24 rfl (lv_at hl 0 rfl) ?_
      refine kg_Rd_26 X U 0 rfl rfl kd_Rd_isDigitFrom_25 ?_
      refine lv_aload_n hx hb kd_Rd_isDigitFrom_28 rfl (lv_at hl 0 rfl) ?_
      refine kg_Rd_33 X U 0 rfl rfl kd_Rd_isDigitFrom_29 ?_
      refine kz_cald (k := at_) X U 1 rfl (by omega) (by omega) kd_Rd_isDigitFrom_32 ?_
      refine kz_top (y := nI (src at_)) rfl ?_
      refine kz_bp X 57 kd_Rd_isDigitFrom_33 (by decide) ?_
      refine kz_icgt X (by first | omega | (have := hsrc at_; omega)) (by first | omega | (have := hsrc at_; omega)) kd_Rd_isDigitFrom_35 rfl (fun h35 => ?_) (fun h35 => ?_)
      · refine kz_ic X 0 kd_Rd_isDigitFrom_42 (by decide) ?_
        refine kz_top (y := nB false) rfl ?_
        exact kz_ez hQ hA X U (()) rfl (by first | rw [decide_eq_true (by omega)] | rw [decide_eq_false (by omega)]) kd_Rd_isDigitFrom_43
      · refine kz_ic X 1 kd_Rd_isDigitFrom_38 (by decide) ?_
        refine lv_goto hx hb kd_Rd_isDigitFrom_39 rfl ?_
        refine kz_top (y := nB true) rfl ?_
        exact kz_ez hQ hA X U (()) rfl (by first | rw [decide_eq_true (by omega)] | rw [decide_eq_false (by omega)]) kd_Rd_isDigitFrom_43
